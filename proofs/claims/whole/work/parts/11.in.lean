-- ===== the tables' words are among the Statement's =====
def tk : Nat → List Cond
  | 0 => k2_sels lw_privs
  | 1 => tables_1_1
  | 2 => tables_1_2
  | 3 => tables_1_3
  | 4 => tables_1_4
  | 5 => tables_1_5
  | 6 => tables_1_6
  | 7 => tables_1_7
  | 8 => tables_1_8
  | 9 => tables_1_9
  | 10 => tables_1_10
  | _ => tables_1_11
theorem tk_in : ∀ k w, w ∈ tk k → w ∈ lw_tbl := by
  intro k w h
  show w ∈ k2_sels lw_privs ++ (tables_1_1 ++ (tables_1_2 ++ (tables_1_3 ++ (tables_1_4 ++ (tables_1_5 ++ (tables_1_6 ++ (tables_1_7 ++ (tables_1_8 ++ (tables_1_9 ++ (tables_1_10 ++ tables_1_11))))))))))
  match k, h with
  | 0, h => exact List.mem_append_left _ h
  | 1, h => exact List.mem_append_right _ (List.mem_append_left _ h)
  | 2, h => exact List.mem_append_right _ (List.mem_append_right _ (List.mem_append_left _ h))
  | 3, h => exact List.mem_append_right _ (List.mem_append_right _ (List.mem_append_right _ (List.mem_append_left _ h)))
  | 4, h => exact List.mem_append_right _ (List.mem_append_right _ (List.mem_append_right _ (List.mem_append_right _ (List.mem_append_left _ h))))
  | 5, h => exact List.mem_append_right _ (List.mem_append_right _ (List.mem_append_right _ (List.mem_append_right _ (List.mem_append_right _ (List.mem_append_left _ h)))))
  | 6, h => exact List.mem_append_right _ (List.mem_append_right _ (List.mem_append_right _ (List.mem_append_right _ (List.mem_append_right _ (List.mem_append_right _ (List.mem_append_left _ h))))))
  | 7, h => exact List.mem_append_right _ (List.mem_append_right _ (List.mem_append_right _ (List.mem_append_right _ (List.mem_append_right _ (List.mem_append_right _ (List.mem_append_right _ (List.mem_append_left _ h)))))))
  | 8, h => exact List.mem_append_right _ (List.mem_append_right _ (List.mem_append_right _ (List.mem_append_right _ (List.mem_append_right _ (List.mem_append_right _ (List.mem_append_right _ (List.mem_append_right _ (List.mem_append_left _ h))))))))
  | 9, h => exact List.mem_append_right _ (List.mem_append_right _ (List.mem_append_right _ (List.mem_append_right _ (List.mem_append_right _ (List.mem_append_right _ (List.mem_append_right _ (List.mem_append_right _ (List.mem_append_right _ (List.mem_append_left _ h)))))))))
  | 10, h => exact List.mem_append_right _ (List.mem_append_right _ (List.mem_append_right _ (List.mem_append_right _ (List.mem_append_right _ (List.mem_append_right _ (List.mem_append_right _ (List.mem_append_right _ (List.mem_append_right _ (List.mem_append_right _ (List.mem_append_left _ h))))))))))
  | k + 11, h => exact List.mem_append_right _ (List.mem_append_right _ (List.mem_append_right _ (List.mem_append_right _ (List.mem_append_right _ (List.mem_append_right _ (List.mem_append_right _ (List.mem_append_right _ (List.mem_append_right _ (List.mem_append_right _ (List.mem_append_right _ (h)))))))))))
theorem in_all {α : Type} {f : α → Cond} {l : List α} {ps : List (Nat × Nat)} (h : (l.map f == ps.filterMap (fun q => (tk q.1)[q.2]?)) = true) : ∀ e ∈ l, f e ∈ lw_tbl := by
  intro e he
  have hp : l.map f = ps.filterMap (fun q => (tk q.1)[q.2]?) := by simpa using h
  have hm : f e ∈ l.map f := List.mem_map.mpr ⟨e, he, rfl⟩
  rw [hp] at hm
  obtain ⟨q, -, hq⟩ := List.mem_filterMap.mp hm
  exact tk_in q.1 _ (List.mem_of_getElem? hq)
set_option maxRecDepth 1000000 in
theorem FR_in : ∀ e ∈ FR, frW e ∈ lw_tbl := in_all (ps := [(2, 80), (2, 81), (2, 82), (2, 83), (2, 84), (2, 85), (2, 86), (2, 87), (2, 88), (2, 89), (2, 90), (2, 91), (2, 92), (2, 93), (2, 94), (8, 59), (8, 64), (8, 69), (8, 70), (8, 71), (8, 72), (8, 73), (8, 74), (8, 75), (8, 76), (8, 77), (8, 82), (8, 83), (8, 84), (8, 58), (8, 80), (8, 78), (2, 14), (1, 236), (1, 234), (1, 238), (1, 229), (1, 227), (2, 17), (1, 194), (1, 101), (8, 79), (1, 153), (8, 60), (8, 63), (8, 61), (8, 62), (1, 73), (1, 75), (1, 78), (1, 81), (1, 83), (1, 86), (1, 89), (1, 92), (1, 95), (1, 97), (1, 98), (1, 99), (1, 103), (1, 104), (1, 105), (1, 106), (1, 226), (1, 228), (1, 230), (1, 233), (1, 235), (1, 237), (1, 239), (2, 1), (2, 4), (2, 7), (2, 9), (2, 11), (2, 13), (2, 16), (1, 199), (1, 56), (1, 203), (1, 210), (2, 6), (2, 3), (1, 232), (1, 77), (2, 0), (1, 163), (2, 12), (2, 10), (2, 8), (1, 152), (1, 164), (1, 197), (1, 207), (1, 169), (1, 166), (1, 160), (3, 71), (3, 73), (8, 81), (8, 65), (1, 54), (1, 57), (1, 61), (1, 156), (1, 158), (1, 161), (1, 167), (1, 170), (1, 192), (1, 195), (1, 198), (1, 201), (1, 204), (1, 206), (1, 208), (2, 66), (2, 67), (1, 102), (4, 214), (1, 60), (1, 162), (1, 159), (1, 165), (1, 168), (1, 196), (1, 193), (1, 202), (1, 91), (1, 93), (1, 84), (1, 87), (1, 63), (1, 200), (1, 205), (3, 42), (3, 44), (3, 45), (3, 47), (3, 40), (3, 41), (3, 69), (3, 70), (3, 72), (3, 74), (3, 75), (3, 76), (3, 66), (3, 67), (3, 68), (3, 46), (8, 66), (8, 68), (8, 67), (2, 70), (2, 68), (4, 215), (1, 209), (1, 157), (1, 154), (1, 74), (1, 76), (1, 231), (1, 79), (1, 100), (1, 59), (1, 80), (10, 234), (1, 82), (1, 85), (1, 88), (1, 90), (1, 94), (1, 96), (1, 55), (2, 2), (2, 5), (1, 58), (1, 62), (2, 15), (1, 155), (3, 43), (3, 48), (2, 69)]) (by decide +kernel)
set_option maxRecDepth 1000000 in
theorem GS_in : ∀ e ∈ GS, gsW e ∈ lw_tbl := in_all (ps := [(2, 57), (3, 142), (3, 124), (3, 185), (3, 195), (3, 197), (3, 199), (3, 205), (3, 216), (3, 226), (4, 234), (4, 145), (4, 147), (4, 225), (4, 227), (4, 230), (4, 232), (5, 4), (5, 20), (3, 236)]) (by decide +kernel)
def mN (y : Nat) : MethodName := match MI[y]? with
  | some e => e.1
  | none => ⟨"", "", ""⟩
def mrW (e : MRt) : Cond := if e.2.2.2.1 = 8 then .methodLink e.1 e.2.1 ⟨"java/lang/AbstractStringBuilder", "length", "()I"⟩ else if e.2.2.2.2.2 = "" then .methodLink e.1 e.2.1 (mN e.2.2.1) else .methodLinkNest e.1 e.2.1 (mN e.2.2.1) e.2.2.2.2.2
/-- the call of AbstractStringBuilder.length, which StringBuilder has its own of -/
def xU : MethodName := ⟨"java/lang/AbstractStringBuilder", "length", "()I"⟩
set_option maxRecDepth 1000000 in
theorem MR_in : ∀ e ∈ MR, mrW e ∈ lw_tbl := in_all (ps := [(1, 35), (8, 54), (8, 34), (10, 196), (8, 141), (8, 22), (10, 191), (7, 184), (10, 168), (7, 176), (10, 164), (7, 169), (10, 160), (2, 186), (10, 156), (7, 161), (10, 152), (7, 153), (10, 148), (7, 146), (10, 144), (7, 139), (10, 140), (7, 132), (10, 132), (7, 120), (10, 128), (7, 110), (10, 124), (7, 78), (10, 116), (7, 63), (10, 108), (7, 51), (10, 104), (7, 37), (10, 100), (7, 12), (10, 85), (7, 5), (10, 69), (6, 224), (10, 73), (6, 217), (10, 65), (6, 210), (10, 61), (6, 202), (10, 57), (6, 187), (10, 53), (6, 97), (10, 5), (6, 83), (9, 219), (6, 71), (9, 229), (6, 60), (9, 212), (6, 53), (9, 208), (6, 46), (9, 204), (6, 39), (9, 200), (6, 32), (9, 192), (2, 178), (9, 188), (6, 17), (9, 178), (6, 1), (9, 237), (2, 174), (9, 174), (2, 170), (9, 170), (5, 229), (9, 166), (2, 166), (9, 162), (2, 162), (9, 158), (2, 158), (9, 154), (5, 213), (9, 150), (5, 205), (9, 140), (5, 198), (9, 136), (5, 191), (9, 132), (5, 180), (9, 128), (5, 173), (9, 124), (5, 161), (9, 112), (2, 154), (9, 108), (5, 146), (9, 104), (5, 133), (9, 93), (5, 125), (9, 89), (5, 118), (9, 85), (5, 111), (9, 81), (5, 104), (9, 77), (5, 91), (9, 69), (5, 58), (9, 53), (2, 150), (9, 49), (2, 146), (9, 41), (2, 142), (8, 153), (2, 138), (8, 161), (2, 134), (8, 157), (2, 190), (8, 165), (2, 126), (8, 145), (1, 43), (1, 142), (2, 50), (8, 37), (8, 169), (8, 25), (9, 65), (10, 177), (10, 172), (9, 223), (10, 181), (9, 216), (9, 233), (10, 186), (10, 77), (7, 187), (9, 120), (7, 179), (9, 38), (7, 172), (7, 164), (7, 156), (9, 73), (10, 81), (8, 172), (10, 112), (7, 149), (10, 136), (7, 142), (7, 135), (7, 123), (9, 22), (9, 28), (7, 113), (9, 97), (10, 120), (10, 45), (7, 82), (10, 89), (10, 93), (9, 101), (10, 49), (7, 66), (10, 9), (10, 17), (7, 54), (10, 30), (7, 40), (7, 15), (7, 8), (10, 13), (6, 227), (6, 220), (6, 213), (9, 182), (10, 21), (6, 205), (6, 190), (6, 100), (6, 86), (9, 226), (6, 74), (6, 63), (6, 56), (9, 196), (6, 49), (6, 42), (6, 35), (2, 182), (9, 45), (6, 20), (6, 4), (10, 1), (5, 232), (5, 216), (5, 208), (9, 144), (5, 201), (9, 116), (5, 194), (5, 183), (5, 176), (5, 164), (5, 149), (5, 136), (5, 128), (9, 61), (9, 31), (5, 121), (5, 114), (9, 57), (5, 107), (5, 94), (5, 62), (2, 195), (8, 176), (2, 130), (8, 149), (1, 49), (1, 148), (1, 188), (2, 53), (8, 21), (8, 42), (5, 70), (7, 191), (8, 29), (8, 16), (8, 18), (8, 17), (6, 232), (9, 185), (8, 203), (8, 204), (5, 168), (5, 144), (5, 187), (6, 108), (5, 98), (6, 9), (6, 237), (7, 70), (7, 1), (7, 128), (7, 129), (7, 130), (7, 131), (9, 34), (5, 236), (5, 140), (7, 117), (7, 118), (7, 119), (7, 19), (7, 102), (10, 97), (6, 123), (7, 58), (7, 44), (7, 48), (6, 104), (6, 194), (6, 183), (6, 24), (6, 209), (10, 26), (10, 34), (6, 90), (6, 67), (6, 94), (6, 78), (6, 13), (5, 220), (9, 147), (5, 153), (5, 66), (5, 132), (5, 103), (3, 33), (3, 62), (3, 96), (5, 54), (8, 180), (8, 190), (8, 221), (8, 205), (4, 109), (8, 46), (7, 195), (4, 171), (4, 136), (4, 16), (6, 236), (3, 138), (3, 147), (3, 151), (6, 113), (6, 118), (7, 74), (5, 34), (5, 38), (5, 42), (6, 174), (6, 179), (7, 23), (7, 27), (7, 31), (7, 106), (6, 166), (6, 170), (6, 127), (6, 136), (6, 198), (6, 28), (6, 132), (6, 140), (6, 141), (10, 38), (5, 228), (6, 82), (5, 224), (5, 157), (3, 100), (3, 104), (3, 116), (3, 120), (3, 201), (5, 47), (8, 184), (8, 195), (8, 210), (8, 199), (8, 226), (8, 232), (8, 237), (9, 16), (4, 19), (4, 52), (4, 181), (4, 182), (4, 139), (4, 142), (4, 57), (6, 145), (6, 162), (10, 42), (3, 108), (3, 112), (3, 126), (3, 187), (3, 207), (3, 211), (3, 218), (3, 228), (4, 236), (3, 181), (8, 214), (9, 1), (9, 6), (4, 23), (4, 38), (4, 186), (4, 191), (6, 149), (6, 153), (3, 130), (3, 191), (3, 222), (3, 232), (3, 238), (4, 2), (4, 6), (5, 0), (5, 6), (5, 15), (5, 22), (5, 30), (4, 27), (4, 190), (6, 157), (3, 134), (3, 143), (4, 11), (4, 12), (4, 85), (5, 26), (4, 91), (4, 94), (4, 98), (4, 103), (4, 111), (4, 112), (4, 115), (4, 118)]) (by decide +kernel)
def miI (e : MIt) : Cond := .initialized e.1.cls
set_option maxRecDepth 1000000 in
theorem MI_ini : ∀ e ∈ MI, miI e ∈ lw_tbl := in_all (ps := [(1, 0), (1, 1), (1, 11), (1, 0), (1, 11), (1, 11), (1, 0), (1, 11), (1, 0), (1, 11), (1, 0), (1, 11), (1, 0), (1, 11), (1, 1), (1, 11), (1, 0), (1, 11), (1, 0), (1, 11), (1, 0), (1, 11), (1, 0), (1, 11), (1, 0), (1, 11), (1, 0), (1, 11), (1, 0), (1, 11), (1, 0), (1, 11), (1, 0), (1, 11), (1, 0), (1, 11), (1, 0), (1, 11), (1, 0), (1, 11), (1, 0), (1, 11), (1, 0), (1, 11), (1, 0), (1, 11), (1, 0), (1, 11), (1, 0), (1, 11), (1, 0), (1, 11), (1, 0), (1, 11), (1, 0), (1, 11), (1, 0), (1, 11), (1, 0), (1, 11), (1, 0), (1, 11), (1, 0), (1, 11), (1, 0), (1, 11), (1, 0), (1, 11), (1, 1), (1, 11), (1, 0), (1, 11), (1, 0), (1, 11), (1, 1), (1, 11), (1, 1), (1, 11), (1, 0), (1, 11), (1, 1), (1, 11), (1, 1), (1, 11), (1, 1), (1, 11), (1, 0), (1, 11), (1, 0), (1, 11), (1, 0), (1, 11), (1, 0), (1, 11), (1, 0), (1, 11), (1, 0), (1, 11), (1, 0), (1, 11), (1, 1), (1, 11), (1, 0), (1, 11), (1, 0), (1, 11), (1, 0), (1, 11), (1, 0), (1, 11), (1, 0), (1, 11), (1, 0), (1, 11), (1, 0), (1, 11), (1, 0), (1, 11), (1, 1), (1, 11), (1, 1), (1, 11), (1, 1), (1, 11), (1, 1), (1, 11), (1, 1), (1, 11), (1, 0), (1, 11), (1, 1), (1, 11), (1, 2), (1, 4), (1, 8), (1, 1), (1, 11), (1, 1), (1, 11), (1, 11), (1, 11), (1, 11), (1, 11), (1, 11), (1, 11), (1, 11), (1, 11), (1, 1), (1, 11), (1, 1), (1, 11), (1, 1), (1, 1), (1, 1), (1, 11), (1, 11), (1, 11), (1, 11), (1, 1), (1, 11), (1, 1), (1, 1), (1, 1), (1, 11), (1, 11), (1, 1), (1, 11), (1, 11), (1, 11), (1, 1), (1, 11), (1, 11), (1, 11), (1, 11), (1, 1), (1, 11), (1, 11), (1, 1), (1, 11), (1, 1), (1, 1), (1, 1), (1, 11), (1, 1), (1, 1), (1, 1), (1, 11), (1, 11), (1, 1), (1, 1), (1, 1), (1, 1), (1, 11), (1, 1), (1, 1), (1, 1), (1, 11), (1, 1), (1, 1), (1, 1), (1, 5), (1, 11), (1, 1), (1, 1), (1, 11), (1, 1), (1, 1), (1, 1), (1, 11), (1, 1), (1, 11), (1, 1), (1, 1), (1, 1), (1, 1), (1, 1), (1, 1), (1, 1), (1, 11), (1, 11), (1, 1), (1, 1), (1, 11), (1, 1), (1, 1), (1, 1), (1, 1), (1, 11), (1, 1), (1, 11), (1, 3), (1, 5), (1, 6), (1, 7), (1, 8), (1, 8), (1, 1), (1, 8), (1, 1), (1, 8), (1, 8), (1, 8), (1, 4), (1, 11), (1, 9), (1, 9), (1, 1), (1, 2), (1, 6), (1, 4), (1, 1), (1, 1), (1, 4), (1, 1), (1, 4), (1, 2), (1, 5), (1, 5), (1, 5), (1, 11), (1, 1), (1, 1), (1, 4), (1, 4), (1, 4), (1, 4), (1, 4), (1, 11), (1, 4), (1, 4), (1, 5), (1, 1), (1, 1), (1, 1), (1, 1), (1, 4), (1, 4), (1, 11), (1, 11), (1, 6), (1, 6), (1, 1), (1, 4), (1, 2), (1, 6), (1, 11), (1, 5), (1, 1), (1, 5), (1, 5), (1, 17), (1, 16), (1, 16), (1, 1), (1, 11), (1, 11), (1, 11), (1, 11), (1, 7), (1, 7), (1, 7), (1, 7), (1, 7), (1, 7), (1, 9), (1, 9), (1, 21), (1, 5), (1, 6), (1, 1), (1, 5), (1, 6), (1, 5), (1, 4), (1, 4), (1, 28), (1, 2), (1, 6), (1, 6), (1, 4), (1, 4), (1, 11), (1, 6), (1, 5), (1, 2), (1, 4), (1, 17), (1, 16), (1, 16), (1, 16), (1, 11), (1, 11), (1, 11), (1, 11), (1, 11), (1, 11), (1, 11), (1, 11), (1, 7), (1, 7), (1, 7), (1, 28), (1, 28), (1, 21), (1, 4), (1, 4), (1, 11), (1, 5), (1, 6), (1, 16), (1, 16), (1, 16), (1, 16), (1, 16), (1, 16), (1, 16), (1, 16), (1, 11), (1, 11), (1, 11), (1, 7), (1, 24), (1, 7), (1, 9), (1, 4), (1, 4), (1, 17), (1, 16), (1, 2), (1, 16), (1, 16), (1, 17), (1, 16), (1, 16), (1, 23), (1, 4), (1, 8), (1, 9), (1, 9), (1, 7), (1, 24), (1, 24), (1, 24)]) (by decide +kernel)
def miK (e : MIt) : Cond := if e.2.2.2.2.2.1 = 0 ∨ e.2.2.2.2.2.1 = 2 then .instanceMethod e.1 else .static e.1
set_option maxRecDepth 1000000 in
theorem MI_kind : ∀ e ∈ MI.tail, miK e ∈ lw_tbl := in_all (ps := [(1, 36), (8, 55), (8, 35), (10, 197), (8, 142), (8, 23), (10, 192), (7, 185), (10, 169), (7, 177), (10, 165), (7, 170), (10, 161), (2, 187), (10, 157), (7, 162), (10, 153), (7, 154), (10, 149), (7, 147), (10, 145), (7, 140), (10, 141), (7, 133), (10, 133), (7, 121), (10, 129), (7, 111), (10, 125), (7, 79), (10, 117), (7, 64), (10, 109), (7, 52), (10, 105), (7, 38), (10, 101), (7, 13), (10, 86), (7, 6), (10, 70), (6, 225), (10, 74), (6, 218), (10, 66), (6, 211), (10, 62), (6, 203), (10, 58), (6, 188), (10, 54), (6, 98), (10, 6), (6, 84), (9, 220), (6, 72), (9, 230), (6, 61), (9, 213), (6, 54), (9, 209), (6, 47), (9, 205), (6, 40), (9, 201), (6, 33), (9, 193), (2, 179), (9, 189), (6, 18), (9, 179), (6, 2), (9, 238), (2, 175), (9, 175), (2, 171), (9, 171), (5, 230), (9, 167), (2, 167), (9, 163), (2, 163), (9, 159), (2, 159), (9, 155), (5, 214), (9, 151), (5, 206), (9, 141), (5, 199), (9, 137), (5, 192), (9, 133), (5, 181), (9, 129), (5, 174), (9, 125), (5, 162), (9, 113), (2, 155), (9, 109), (5, 147), (9, 105), (5, 134), (9, 94), (5, 126), (9, 90), (5, 119), (9, 86), (5, 112), (9, 82), (5, 105), (9, 78), (5, 92), (9, 70), (5, 59), (9, 54), (2, 151), (9, 50), (2, 147), (9, 42), (2, 143), (8, 154), (2, 139), (8, 162), (2, 135), (8, 158), (2, 191), (8, 166), (2, 127), (8, 146), (1, 44), (1, 143), (2, 51), (8, 38), (8, 170), (8, 26), (9, 67), (10, 179), (10, 174), (9, 224), (10, 183), (9, 217), (9, 235), (10, 188), (10, 79), (7, 188), (9, 122), (7, 180), (9, 39), (7, 173), (7, 165), (7, 157), (9, 75), (10, 83), (8, 174), (10, 114), (7, 150), (10, 138), (7, 143), (7, 136), (7, 124), (9, 23), (9, 29), (7, 114), (9, 99), (10, 122), (10, 47), (7, 83), (10, 91), (10, 95), (9, 102), (10, 51), (7, 67), (10, 11), (10, 19), (7, 55), (10, 32), (7, 41), (7, 16), (7, 9), (10, 15), (6, 228), (6, 221), (6, 214), (9, 183), (10, 23), (6, 206), (6, 191), (6, 101), (6, 87), (9, 227), (6, 75), (6, 64), (6, 57), (9, 198), (6, 50), (6, 43), (6, 36), (2, 184), (9, 47), (6, 21), (6, 5), (10, 3), (5, 233), (5, 217), (5, 209), (9, 145), (5, 202), (9, 118), (5, 195), (5, 184), (5, 177), (5, 165), (5, 150), (5, 137), (5, 129), (9, 63), (9, 32), (5, 122), (5, 115), (9, 59), (5, 108), (5, 95), (5, 63), (2, 196), (8, 178), (2, 132), (8, 151), (1, 50), (1, 149), (1, 189), (2, 54), (4, 107), (8, 43), (5, 72), (7, 192), (8, 31), (4, 168), (4, 133), (4, 13), (6, 234), (9, 186), (3, 135), (3, 144), (5, 170), (4, 4), (5, 189), (6, 110), (5, 100), (6, 10), (6, 239), (7, 72), (7, 3), (5, 8), (5, 17), (5, 28), (5, 32), (9, 35), (5, 238), (5, 142), (7, 108), (6, 168), (6, 172), (7, 21), (7, 104), (10, 98), (6, 125), (7, 60), (7, 46), (7, 49), (6, 106), (6, 196), (6, 185), (6, 26), (6, 129), (10, 28), (10, 36), (6, 92), (6, 69), (6, 95), (6, 80), (6, 15), (5, 222), (9, 148), (5, 155), (5, 68), (5, 44), (5, 40), (3, 34), (3, 63), (3, 98), (5, 56), (8, 182), (8, 192), (8, 223), (8, 207), (4, 104), (8, 47), (7, 196), (4, 172), (4, 137), (4, 17), (3, 139), (3, 148), (3, 152), (6, 115), (6, 120), (7, 76), (5, 36), (6, 176), (6, 181), (7, 25), (7, 29), (7, 32), (6, 138), (6, 200), (6, 30), (6, 134), (6, 143), (10, 40), (5, 226), (5, 159), (3, 102), (3, 106), (3, 118), (3, 122), (3, 203), (5, 49), (8, 186), (8, 197), (8, 212), (8, 201), (8, 228), (8, 234), (8, 239), (9, 18), (4, 21), (4, 53), (4, 184), (4, 140), (4, 143), (4, 58), (6, 147), (6, 164), (10, 43), (3, 110), (3, 114), (3, 128), (3, 189), (3, 209), (3, 213), (3, 220), (3, 230), (4, 238), (3, 183), (8, 216), (9, 3), (9, 8), (4, 25), (4, 39), (4, 188), (4, 192), (6, 151), (6, 155), (3, 132), (3, 193), (3, 224), (3, 234), (4, 0), (4, 8), (5, 2), (5, 24), (4, 28), (6, 159), (4, 86), (4, 92), (4, 95), (4, 99), (4, 113), (4, 116), (4, 119)]) (by decide +kernel)
def fC (c : Nat) : String := match cTab[c]? with
  | some q => q.1
  | none => ""
def miS (e : MIt) : Cond := .selects (fC e.2.2.2.2.2.2.1) e.1 e.1
/-- the private methods of StringBuilder's superclass -/
def sPriv : List Nat := [338, 340, 360, 362]
/-- called by super alone -/
def sSup : List Nat := [298, 299, 300, 301, 302, 303]
def MIsel : List MIt := (MI.zipIdx.filter (fun q => q.1.2.2.2.2.2.1 == 0 && !(sPriv.contains q.2) && !(sSup.contains q.2))).map (fun q => q.1)
set_option maxRecDepth 1000000 in
theorem MI_sel : ∀ e ∈ MIsel, miS e ∈ lw_tbl := in_all (ps := [(10, 198), (8, 143), (10, 193), (10, 170), (10, 166), (10, 162), (2, 188), (10, 158), (10, 154), (10, 150), (10, 146), (10, 142), (10, 134), (10, 130), (10, 126), (10, 118), (10, 110), (10, 106), (10, 102), (10, 87), (10, 71), (10, 75), (10, 67), (10, 63), (10, 59), (10, 55), (10, 7), (9, 221), (9, 231), (9, 214), (9, 210), (9, 206), (9, 202), (9, 194), (2, 180), (9, 190), (9, 180), (9, 239), (2, 176), (9, 176), (2, 172), (9, 172), (9, 168), (2, 168), (9, 164), (2, 164), (9, 160), (2, 160), (9, 156), (9, 152), (9, 142), (9, 138), (9, 134), (9, 130), (9, 126), (9, 114), (2, 156), (9, 110), (9, 106), (9, 95), (9, 91), (9, 87), (9, 83), (9, 79), (9, 71), (9, 55), (2, 152), (9, 51), (2, 148), (9, 43), (2, 144), (8, 155), (2, 140), (8, 163), (2, 136), (8, 159), (8, 167), (2, 128), (8, 147), (8, 39), (8, 27), (0, 109), (0, 135), (0, 134), (0, 136), (0, 115), (0, 137), (0, 127), (7, 189), (0, 113), (7, 181), (7, 174), (7, 166), (7, 158), (0, 110), (0, 128), (0, 89), (0, 131), (7, 151), (0, 133), (7, 144), (7, 137), (7, 125), (7, 115), (0, 111), (0, 132), (0, 125), (7, 84), (0, 129), (0, 130), (0, 126), (7, 68), (0, 117), (0, 119), (7, 56), (0, 122), (7, 42), (7, 17), (7, 10), (0, 118), (6, 229), (6, 222), (6, 215), (0, 120), (6, 207), (6, 192), (6, 102), (6, 88), (6, 76), (6, 65), (6, 58), (0, 114), (6, 51), (6, 44), (6, 37), (0, 1), (0, 106), (6, 22), (6, 6), (0, 116), (5, 234), (5, 218), (5, 210), (5, 203), (0, 112), (5, 196), (5, 185), (5, 178), (5, 166), (5, 151), (5, 138), (5, 130), (0, 108), (5, 123), (5, 116), (0, 107), (5, 109), (5, 96), (5, 64), (2, 197), (0, 90), (0, 0), (0, 88), (10, 211), (8, 44), (0, 38), (7, 193), (0, 87), (4, 169), (4, 134), (4, 14), (0, 75), (3, 136), (3, 145), (0, 43), (0, 23), (0, 44), (0, 55), (0, 39), (0, 76), (0, 83), (0, 77), (0, 27), (0, 28), (0, 30), (0, 31), (0, 47), (0, 40), (0, 86), (0, 68), (0, 69), (0, 78), (0, 85), (0, 58), (0, 82), (0, 81), (0, 54), (0, 73), (0, 72), (0, 49), (0, 59), (0, 121), (0, 123), (0, 53), (0, 51), (0, 52), (0, 48), (0, 45), (0, 41), (0, 37), (0, 34), (0, 33), (0, 3), (0, 36), (0, 91), (0, 93), (0, 99), (0, 96), (3, 140), (3, 149), (0, 56), (0, 57), (0, 84), (0, 32), (0, 70), (0, 71), (0, 79), (0, 80), (0, 61), (0, 74), (0, 50), (0, 60), (0, 62), (0, 124), (0, 46), (0, 42), (0, 4), (0, 5), (0, 8), (0, 9), (0, 15), (0, 35), (0, 92), (0, 94), (0, 97), (0, 95), (0, 100), (0, 101), (0, 102), (0, 105), (4, 55), (0, 63), (0, 67), (0, 6), (0, 7), (0, 10), (0, 13), (0, 16), (0, 17), (0, 18), (0, 20), (0, 25), (0, 12), (0, 98), (0, 103), (0, 104), (4, 193), (0, 64), (0, 65), (0, 11), (0, 14), (0, 19), (0, 21), (0, 22), (0, 24), (0, 26), (0, 29), (0, 66), (4, 87), (4, 101)]) (by decide +kernel)
def MIpr : List MIt := (MI.zipIdx.filter (fun q => sPriv.contains q.2)).map (fun q => q.1)
def miP (e : MIt) : Cond := .privateMethod e.1
set_option maxRecDepth 1000000 in
theorem MI_priv : ∀ e ∈ MIpr, miP e ∈ lw_tbl := in_all (ps := [(4, 20), (4, 183), (4, 24), (4, 187)]) (by decide +kernel)
def miC (q : MIt × Nat) : Cond := miW q.1 (hhOf q.2)
set_option maxRecDepth 100000 in
theorem mc_1 : miC ((⟨"FishGrader", "<init>", "()V"⟩, prog_1_method_1_code, 1, none, 2, 2, 7, 0), 1) ∈ lw_tbl := tk_in 1 _ (List.mem_of_getElem? (i := 37) rfl)
set_option maxRecDepth 100000 in
theorem mc_2 : miC ((⟨"FishGraderModel", "<init>", "()V"⟩, prog_11_method_1_code, 1, none, 0, 2, 8, 0), 2) ∈ lw_tbl := tk_in 8 _ (List.mem_of_getElem? (i := 56) rfl)
set_option maxRecDepth 100000 in
theorem mc_3 : miC ((⟨"FishGraderLaw", "labelByte", "(LFishGrader;I[J)I"⟩, method_52_code, 4, (some .int), 3, 3, 0, 3), 3) ∈ lw_tbl := tk_in 8 _ (List.mem_of_getElem? (i := 36) rfl)
set_option maxRecDepth 100000 in
theorem mc_4 : miC ((⟨"FishGraderModel", "labelByte", "(I)I"⟩, prog_11_method_132_code, 2, (some .int), 1, 0, 8, 1), 4) ∈ lw_tbl := tk_in 10 _ (List.mem_of_getElem? (i := 199) rfl)
set_option maxRecDepth 100000 in
theorem mc_5 : miC ((⟨"FishGraderModel", "thrown", "()I"⟩, prog_11_method_2_code, 1, (some .int), 0, 0, 8, 0), 5) ∈ lw_tbl := tk_in 8 _ (List.mem_of_getElem? (i := 144) rfl)
set_option maxRecDepth 100000 in
theorem mc_6 : miC ((⟨"FishGraderLaw", "report", "(LFishGrader;[J)I"⟩, method_51_code, 3, (some .int), 7, 3, 0, 2), 6) ∈ lw_tbl := tk_in 8 _ (List.mem_of_getElem? (i := 24) rfl)
set_option maxRecDepth 100000 in
theorem mc_7 : miC ((⟨"FishGraderModel", "report", "()I"⟩, prog_11_method_131_code, 2, (some .int), 3, 0, 8, 0), 7) ∈ lw_tbl := tk_in 10 _ (List.mem_of_getElem? (i := 194) rfl)
set_option maxRecDepth 100000 in
theorem mc_8 : miC ((⟨"FishGraderLaw", "label", "(LFishGrader;I[J)I"⟩, method_50_code, 4, (some .int), 6, 3, 0, 3), 8) ∈ lw_tbl := tk_in 7 _ (List.mem_of_getElem? (i := 186) rfl)
set_option maxRecDepth 100000 in
theorem mc_9 : miC ((⟨"FishGraderModel", "label", "(I)I"⟩, prog_11_method_130_code, 2, (some .int), 3, 0, 8, 1), 9) ∈ lw_tbl := tk_in 10 _ (List.mem_of_getElem? (i := 171) rfl)
set_option maxRecDepth 100000 in
theorem mc_10 : miC ((⟨"FishGraderLaw", "restore", "(LFishGrader;[J)I"⟩, method_49_code, 3, (some .int), 3, 3, 0, 2), 10) ∈ lw_tbl := tk_in 7 _ (List.mem_of_getElem? (i := 178) rfl)
set_option maxRecDepth 100000 in
theorem mc_11 : miC ((⟨"FishGraderModel", "restore", "()I"⟩, prog_11_method_125_code, 1, (some .int), 1, 0, 8, 0), 11) ∈ lw_tbl := tk_in 10 _ (List.mem_of_getElem? (i := 167) rfl)
set_option maxRecDepth 100000 in
theorem mc_12 : miC ((⟨"FishGraderLaw", "save", "(LFishGrader;[J)I"⟩, method_48_code, 3, (some .int), 3, 3, 0, 2), 12) ∈ lw_tbl := tk_in 7 _ (List.mem_of_getElem? (i := 171) rfl)
set_option maxRecDepth 100000 in
theorem mc_13 : miC ((⟨"FishGraderModel", "save", "()I"⟩, prog_11_method_124_code, 1, (some .int), 1, 0, 8, 0), 13) ∈ lw_tbl := tk_in 10 _ (List.mem_of_getElem? (i := 163) rfl)
set_option maxRecDepth 100000 in
theorem mc_14 : miC ((⟨"FishGrader", "undoable", "()I"⟩, prog_1_method_67_code, 1, (some .int), 0, 0, 7, 0), 14) ∈ lw_tbl := tk_in 2 _ (List.mem_of_getElem? (i := 189) rfl)
set_option maxRecDepth 100000 in
theorem mc_15 : miC ((⟨"FishGraderModel", "undoable", "()I"⟩, prog_11_method_123_code, 1, (some .int), 0, 0, 8, 0), 15) ∈ lw_tbl := tk_in 10 _ (List.mem_of_getElem? (i := 159) rfl)
set_option maxRecDepth 100000 in
theorem mc_16 : miC ((⟨"FishGraderLaw", "undo", "(LFishGrader;[J)I"⟩, method_47_code, 3, (some .int), 1, 3, 0, 2), 16) ∈ lw_tbl := tk_in 7 _ (List.mem_of_getElem? (i := 163) rfl)
set_option maxRecDepth 100000 in
theorem mc_17 : miC ((⟨"FishGraderModel", "undo", "()I"⟩, prog_11_method_122_code, 1, (some .int), 1, 0, 8, 0), 17) ∈ lw_tbl := tk_in 10 _ (List.mem_of_getElem? (i := 155) rfl)
set_option maxRecDepth 100000 in
theorem mc_18 : miC ((⟨"FishGraderLaw", "moveQuota", "(LFishGrader;III[J)I"⟩, method_46_code, 6, (some .int), 4, 3, 0, 5), 18) ∈ lw_tbl := tk_in 7 _ (List.mem_of_getElem? (i := 155) rfl)
set_option maxRecDepth 100000 in
theorem mc_19 : miC ((⟨"FishGraderModel", "moveQuota", "(III)I"⟩, prog_11_method_121_code, 4, (some .int), 2, 0, 8, 3), 19) ∈ lw_tbl := tk_in 10 _ (List.mem_of_getElem? (i := 151) rfl)
set_option maxRecDepth 100000 in
theorem mc_20 : miC ((⟨"FishGraderLaw", "setTarget", "(LFishGrader;II[J)I"⟩, method_45_code, 5, (some .int), 4, 3, 0, 4), 20) ∈ lw_tbl := tk_in 7 _ (List.mem_of_getElem? (i := 148) rfl)
set_option maxRecDepth 100000 in
theorem mc_21 : miC ((⟨"FishGraderModel", "setTarget", "(II)I"⟩, prog_11_method_120_code, 3, (some .int), 3, 0, 8, 2), 21) ∈ lw_tbl := tk_in 10 _ (List.mem_of_getElem? (i := 147) rfl)
set_option maxRecDepth 100000 in
theorem mc_22 : miC ((⟨"FishGraderLaw", "setLimit", "(LFishGrader;I[J)I"⟩, method_44_code, 4, (some .int), 4, 3, 0, 3), 22) ∈ lw_tbl := tk_in 7 _ (List.mem_of_getElem? (i := 141) rfl)
set_option maxRecDepth 100000 in
theorem mc_23 : miC ((⟨"FishGraderModel", "setLimit", "(I)I"⟩, prog_11_method_119_code, 2, (some .int), 3, 0, 8, 1), 23) ∈ lw_tbl := tk_in 10 _ (List.mem_of_getElem? (i := 143) rfl)
set_option maxRecDepth 100000 in
theorem mc_24 : miC ((⟨"FishGraderLaw", "setRule", "(LFishGrader;I[J)I"⟩, method_43_code, 4, (some .int), 4, 3, 0, 3), 24) ∈ lw_tbl := tk_in 7 _ (List.mem_of_getElem? (i := 134) rfl)
set_option maxRecDepth 100000 in
theorem mc_25 : miC ((⟨"FishGraderModel", "setRule", "(I)I"⟩, prog_11_method_118_code, 2, (some .int), 3, 0, 8, 1), 25) ∈ lw_tbl := tk_in 10 _ (List.mem_of_getElem? (i := 135) rfl)
set_option maxRecDepth 100000 in
theorem mc_26 : miC ((⟨"FishGraderLaw", "addItem", "(LFishGrader;IIII[J)I"⟩, method_42_code, 7, (some .int), 5, 3, 0, 6), 26) ∈ lw_tbl := tk_in 7 _ (List.mem_of_getElem? (i := 122) rfl)
set_option maxRecDepth 100000 in
theorem mc_27 : miC ((⟨"FishGraderModel", "addItem", "(IIII)I"⟩, prog_11_method_116_code, 7, (some .int), 3, 0, 8, 4), 27) ∈ lw_tbl := tk_in 10 _ (List.mem_of_getElem? (i := 131) rfl)
set_option maxRecDepth 100000 in
theorem mc_28 : miC ((⟨"FishGraderLaw", "release", "(LFishGrader;II[J)I"⟩, method_41_code, 5, (some .int), 4, 3, 0, 4), 28) ∈ lw_tbl := tk_in 7 _ (List.mem_of_getElem? (i := 112) rfl)
set_option maxRecDepth 100000 in
theorem mc_29 : miC ((⟨"FishGraderModel", "release", "(II)I"⟩, prog_11_method_115_code, 4, (some .int), 3, 0, 8, 2), 29) ∈ lw_tbl := tk_in 10 _ (List.mem_of_getElem? (i := 127) rfl)
set_option maxRecDepth 100000 in
theorem mc_30 : miC ((⟨"FishGraderLaw", "combine", "(LFishGrader;II[J)I"⟩, method_40_code, 5, (some .int), 5, 3, 0, 4), 30) ∈ lw_tbl := tk_in 7 _ (List.mem_of_getElem? (i := 80) rfl)
set_option maxRecDepth 100000 in
theorem mc_31 : miC ((⟨"FishGraderModel", "combine", "(II)I"⟩, prog_11_method_114_code, 7, (some .int), 3, 0, 8, 2), 31) ∈ lw_tbl := tk_in 10 _ (List.mem_of_getElem? (i := 119) rfl)
set_option maxRecDepth 100000 in
theorem mc_32 : miC ((⟨"FishGraderLaw", "advance", "(LFishGrader;I[J)I"⟩, method_39_code, 4, (some .int), 7, 3, 0, 3), 32) ∈ lw_tbl := tk_in 7 _ (List.mem_of_getElem? (i := 65) rfl)
set_option maxRecDepth 100000 in
theorem mc_33 : miC ((⟨"FishGraderModel", "advance", "(I)I"⟩, prog_11_method_112_code, 3, (some .int), 6, 0, 8, 1), 33) ∈ lw_tbl := tk_in 10 _ (List.mem_of_getElem? (i := 111) rfl)
set_option maxRecDepth 100000 in
theorem mc_34 : miC ((⟨"FishGraderLaw", "iceNeeded", "(LFishGrader;[J)I"⟩, method_38_code, 3, (some .int), 3, 3, 0, 2), 34) ∈ lw_tbl := tk_in 7 _ (List.mem_of_getElem? (i := 53) rfl)
set_option maxRecDepth 100000 in
theorem mc_35 : miC ((⟨"FishGraderModel", "iceNeeded", "()I"⟩, prog_11_method_111_code, 3, (some .int), 1, 0, 8, 0), 35) ∈ lw_tbl := tk_in 10 _ (List.mem_of_getElem? (i := 107) rfl)
set_option maxRecDepth 100000 in
theorem mc_36 : miC ((⟨"FishGraderLaw", "lookahead", "(LFishGrader;III[J)I"⟩, method_37_code, 6, (some .int), 4, 3, 0, 5), 36) ∈ lw_tbl := tk_in 7 _ (List.mem_of_getElem? (i := 39) rfl)
set_option maxRecDepth 100000 in
theorem mc_37 : miC ((⟨"FishGraderModel", "lookahead", "(III)I"⟩, prog_11_method_110_code, 9, (some .int), 3, 0, 8, 3), 37) ∈ lw_tbl := tk_in 10 _ (List.mem_of_getElem? (i := 103) rfl)
set_option maxRecDepth 100000 in
theorem mc_38 : miC ((⟨"FishGraderLaw", "combination", "(LFishGrader;II[J)I"⟩, method_36_code, 5, (some .int), 4, 3, 0, 4), 38) ∈ lw_tbl := tk_in 7 _ (List.mem_of_getElem? (i := 14) rfl)
set_option maxRecDepth 100000 in
theorem mc_39 : miC ((⟨"FishGraderModel", "combination", "(II)I"⟩, prog_11_method_109_code, 3, (some .int), 3, 0, 8, 2), 39) ∈ lw_tbl := tk_in 10 _ (List.mem_of_getElem? (i := 88) rfl)
set_option maxRecDepth 100000 in
theorem mc_40 : miC ((⟨"FishGraderLaw", "bestLimit", "(LFishGrader;I[J)I"⟩, method_35_code, 4, (some .int), 7, 3, 0, 3), 40) ∈ lw_tbl := tk_in 7 _ (List.mem_of_getElem? (i := 7) rfl)
set_option maxRecDepth 100000 in
theorem mc_41 : miC ((⟨"FishGraderModel", "bestLimit", "(I)I"⟩, prog_11_method_103_code, 6, (some .int), 6, 0, 8, 1), 41) ∈ lw_tbl := tk_in 10 _ (List.mem_of_getElem? (i := 72) rfl)
set_option maxRecDepth 100000 in
theorem mc_42 : miC ((⟨"FishGraderLaw", "bestMove", "(LFishGrader;II[J)I"⟩, method_34_code, 5, (some .int), 7, 3, 0, 4), 42) ∈ lw_tbl := tk_in 6 _ (List.mem_of_getElem? (i := 226) rfl)
set_option maxRecDepth 100000 in
theorem mc_43 : miC ((⟨"FishGraderModel", "bestMove", "(II)I"⟩, prog_11_method_105_code, 9, (some .int), 6, 0, 8, 2), 43) ∈ lw_tbl := tk_in 10 _ (List.mem_of_getElem? (i := 76) rfl)
set_option maxRecDepth 100000 in
theorem mc_44 : miC ((⟨"FishGraderLaw", "bestRule", "(LFishGrader;I[J)I"⟩, method_33_code, 4, (some .int), 7, 3, 0, 3), 44) ∈ lw_tbl := tk_in 6 _ (List.mem_of_getElem? (i := 219) rfl)
set_option maxRecDepth 100000 in
theorem mc_45 : miC ((⟨"FishGraderModel", "bestRule", "(I)I"⟩, prog_11_method_102_code, 12, (some .int), 6, 0, 8, 1), 45) ∈ lw_tbl := tk_in 10 _ (List.mem_of_getElem? (i := 68) rfl)
set_option maxRecDepth 100000 in
theorem mc_46 : miC ((⟨"FishGraderLaw", "firstLate", "(LFishGrader;I[J)I"⟩, method_32_code, 4, (some .int), 6, 3, 0, 3), 46) ∈ lw_tbl := tk_in 6 _ (List.mem_of_getElem? (i := 212) rfl)
set_option maxRecDepth 100000 in
theorem mc_47 : miC ((⟨"FishGraderModel", "firstLate", "(I)I"⟩, prog_11_method_101_code, 4, (some .int), 5, 0, 8, 1), 47) ∈ lw_tbl := tk_in 10 _ (List.mem_of_getElem? (i := 64) rfl)
set_option maxRecDepth 100000 in
theorem mc_48 : miC ((⟨"FishGraderLaw", "firstClosed", "(LFishGrader;II[J)I"⟩, method_31_code, 5, (some .int), 6, 3, 0, 4), 48) ∈ lw_tbl := tk_in 6 _ (List.mem_of_getElem? (i := 204) rfl)
set_option maxRecDepth 100000 in
theorem mc_49 : miC ((⟨"FishGraderModel", "firstClosed", "(II)I"⟩, prog_11_method_100_code, 4, (some .int), 5, 0, 8, 2), 49) ∈ lw_tbl := tk_in 10 _ (List.mem_of_getElem? (i := 60) rfl)
set_option maxRecDepth 100000 in
theorem mc_50 : miC ((⟨"FishGraderLaw", "giveawayIn", "(LFishGrader;I[J)I"⟩, method_30_code, 4, (some .int), 7, 3, 0, 3), 50) ∈ lw_tbl := tk_in 6 _ (List.mem_of_getElem? (i := 189) rfl)
set_option maxRecDepth 100000 in
theorem mc_51 : miC ((⟨"FishGraderModel", "giveawayIn", "(I)I"⟩, prog_11_method_99_code, 2, (some .int), 6, 0, 8, 1), 51) ∈ lw_tbl := tk_in 10 _ (List.mem_of_getElem? (i := 56) rfl)
set_option maxRecDepth 100000 in
theorem mc_52 : miC ((⟨"FishGraderLaw", "closedIn", "(LFishGrader;I[J)I"⟩, method_29_code, 4, (some .int), 7, 3, 0, 3), 52) ∈ lw_tbl := tk_in 6 _ (List.mem_of_getElem? (i := 99) rfl)
set_option maxRecDepth 100000 in
theorem mc_53 : miC ((⟨"FishGraderModel", "closedIn", "(I)I"⟩, prog_11_method_98_code, 2, (some .int), 6, 0, 8, 1), 53) ∈ lw_tbl := tk_in 10 _ (List.mem_of_getElem? (i := 8) rfl)
set_option maxRecDepth 100000 in
theorem mc_54 : miC ((⟨"FishGraderLaw", "meanGiveaway", "(LFishGrader;IZ[J)I"⟩, method_28_code, 5, (some .int), 3, 3, 0, 4), 54) ∈ lw_tbl := tk_in 6 _ (List.mem_of_getElem? (i := 85) rfl)
set_option maxRecDepth 100000 in
theorem mc_55 : miC ((⟨"FishGraderModel", "meanGiveaway", "(IZ)I"⟩, prog_11_method_91_code, 5, (some .int), 2, 0, 8, 2), 55) ∈ lw_tbl := tk_in 9 _ (List.mem_of_getElem? (i := 222) rfl)
set_option maxRecDepth 100000 in
theorem mc_56 : miC ((⟨"FishGraderLaw", "earnings", "(LFishGrader;I[J)I"⟩, method_27_code, 4, (some .int), 3, 3, 0, 3), 56) ∈ lw_tbl := tk_in 6 _ (List.mem_of_getElem? (i := 73) rfl)
set_option maxRecDepth 100000 in
theorem mc_57 : miC ((⟨"FishGraderModel", "earnings", "(I)I"⟩, prog_11_method_94_code, 2, (some .int), 2, 0, 8, 1), 57) ∈ lw_tbl := tk_in 9 _ (List.mem_of_getElem? (i := 232) rfl)
set_option maxRecDepth 100000 in
theorem mc_58 : miC ((⟨"FishGraderLaw", "totalGiveaway", "(LFishGrader;I[J)I"⟩, method_26_code, 4, (some .int), 3, 3, 0, 3), 58) ∈ lw_tbl := tk_in 6 _ (List.mem_of_getElem? (i := 62) rfl)
set_option maxRecDepth 100000 in
theorem mc_59 : miC ((⟨"FishGraderModel", "totalGiveaway", "(I)I"⟩, prog_11_method_89_code, 2, (some .int), 2, 0, 8, 1), 59) ∈ lw_tbl := tk_in 9 _ (List.mem_of_getElem? (i := 215) rfl)
set_option maxRecDepth 100000 in
theorem mc_60 : miC ((⟨"FishGraderLaw", "target", "(LFishGrader;I[J)I"⟩, method_25_code, 4, (some .int), 3, 3, 0, 3), 60) ∈ lw_tbl := tk_in 6 _ (List.mem_of_getElem? (i := 55) rfl)
set_option maxRecDepth 100000 in
theorem mc_61 : miC ((⟨"FishGraderModel", "target", "(I)I"⟩, prog_11_method_86_code, 2, (some .int), 3, 0, 8, 1), 61) ∈ lw_tbl := tk_in 9 _ (List.mem_of_getElem? (i := 211) rfl)
set_option maxRecDepth 100000 in
theorem mc_62 : miC ((⟨"FishGraderLaw", "quota", "(LFishGrader;I[J)I"⟩, method_24_code, 4, (some .int), 3, 3, 0, 3), 62) ∈ lw_tbl := tk_in 6 _ (List.mem_of_getElem? (i := 48) rfl)
set_option maxRecDepth 100000 in
theorem mc_63 : miC ((⟨"FishGraderModel", "quota", "(I)I"⟩, prog_11_method_85_code, 2, (some .int), 3, 0, 8, 1), 63) ∈ lw_tbl := tk_in 9 _ (List.mem_of_getElem? (i := 207) rfl)
set_option maxRecDepth 100000 in
theorem mc_64 : miC ((⟨"FishGraderLaw", "discarded", "(LFishGrader;I[J)I"⟩, method_23_code, 4, (some .int), 3, 3, 0, 3), 64) ∈ lw_tbl := tk_in 6 _ (List.mem_of_getElem? (i := 41) rfl)
set_option maxRecDepth 100000 in
theorem mc_65 : miC ((⟨"FishGraderModel", "discarded", "(I)I"⟩, prog_11_method_84_code, 2, (some .int), 3, 0, 8, 1), 65) ∈ lw_tbl := tk_in 9 _ (List.mem_of_getElem? (i := 203) rfl)
set_option maxRecDepth 100000 in
theorem mc_66 : miC ((⟨"FishGraderLaw", "landed", "(LFishGrader;I[J)I"⟩, method_22_code, 4, (some .int), 3, 3, 0, 3), 66) ∈ lw_tbl := tk_in 6 _ (List.mem_of_getElem? (i := 34) rfl)
set_option maxRecDepth 100000 in
theorem mc_67 : miC ((⟨"FishGraderModel", "landed", "(I)I"⟩, prog_11_method_83_code, 2, (some .int), 3, 0, 8, 1), 67) ∈ lw_tbl := tk_in 9 _ (List.mem_of_getElem? (i := 195) rfl)
set_option maxRecDepth 100000 in
theorem mc_68 : miC ((⟨"FishGrader", "rejected", "()I"⟩, prog_1_method_35_code, 1, (some .int), 1, 0, 7, 0), 68) ∈ lw_tbl := tk_in 2 _ (List.mem_of_getElem? (i := 181) rfl)
set_option maxRecDepth 100000 in
theorem mc_69 : miC ((⟨"FishGraderModel", "rejected", "()I"⟩, prog_11_method_81_code, 1, (some .int), 1, 0, 8, 0), 69) ∈ lw_tbl := tk_in 9 _ (List.mem_of_getElem? (i := 191) rfl)
set_option maxRecDepth 100000 in
theorem mc_70 : miC ((⟨"FishGraderLaw", "late", "(LFishGrader;[J)I"⟩, method_21_code, 3, (some .int), 3, 3, 0, 2), 70) ∈ lw_tbl := tk_in 6 _ (List.mem_of_getElem? (i := 19) rfl)
set_option maxRecDepth 100000 in
theorem mc_71 : miC ((⟨"FishGraderModel", "late", "()I"⟩, prog_11_method_80_code, 1, (some .int), 2, 0, 8, 0), 71) ∈ lw_tbl := tk_in 9 _ (List.mem_of_getElem? (i := 181) rfl)
set_option maxRecDepth 100000 in
theorem mc_72 : miC ((⟨"FishGraderLaw", "isStopped", "(LFishGrader;I[J)I"⟩, method_20_code, 4, (some .int), 2, 3, 0, 3), 72) ∈ lw_tbl := tk_in 6 _ (List.mem_of_getElem? (i := 3) rfl)
set_option maxRecDepth 100000 in
theorem mc_73 : miC ((⟨"FishGraderModel", "isStopped", "(I)Z"⟩, prog_11_method_95_code, 2, (some .boolean), 2, 0, 8, 1), 73) ∈ lw_tbl := tk_in 10 _ (List.mem_of_getElem? (i := 0) rfl)
set_option maxRecDepth 100000 in
theorem mc_74 : miC ((⟨"FishGrader", "iceUsed", "()I"⟩, prog_1_method_32_code, 1, (some .int), 0, 0, 7, 0), 74) ∈ lw_tbl := tk_in 2 _ (List.mem_of_getElem? (i := 177) rfl)
set_option maxRecDepth 100000 in
theorem mc_75 : miC ((⟨"FishGraderModel", "iceUsed", "()I"⟩, prog_11_method_77_code, 1, (some .int), 1, 0, 8, 0), 75) ∈ lw_tbl := tk_in 9 _ (List.mem_of_getElem? (i := 177) rfl)
set_option maxRecDepth 100000 in
theorem mc_76 : miC ((⟨"FishGrader", "ice", "()I"⟩, prog_1_method_31_code, 1, (some .int), 0, 0, 7, 0), 76) ∈ lw_tbl := tk_in 2 _ (List.mem_of_getElem? (i := 173) rfl)
set_option maxRecDepth 100000 in
theorem mc_77 : miC ((⟨"FishGraderModel", "ice", "()I"⟩, prog_11_method_76_code, 1, (some .int), 1, 0, 8, 0), 77) ∈ lw_tbl := tk_in 9 _ (List.mem_of_getElem? (i := 173) rfl)
set_option maxRecDepth 100000 in
theorem mc_78 : miC ((⟨"FishGraderLaw", "poolItem", "(LFishGrader;I[J)I"⟩, method_19_code, 4, (some .int), 3, 3, 0, 3), 78) ∈ lw_tbl := tk_in 5 _ (List.mem_of_getElem? (i := 231) rfl)
set_option maxRecDepth 100000 in
theorem mc_79 : miC ((⟨"FishGraderModel", "poolItem", "(I)I"⟩, prog_11_method_75_code, 2, (some .int), 1, 0, 8, 1), 79) ∈ lw_tbl := tk_in 9 _ (List.mem_of_getElem? (i := 169) rfl)
set_option maxRecDepth 100000 in
theorem mc_80 : miC ((⟨"FishGrader", "pooled", "()I"⟩, prog_1_method_29_code, 1, (some .int), 0, 0, 7, 0), 80) ∈ lw_tbl := tk_in 2 _ (List.mem_of_getElem? (i := 169) rfl)
set_option maxRecDepth 100000 in
theorem mc_81 : miC ((⟨"FishGraderModel", "pooled", "()I"⟩, prog_11_method_74_code, 1, (some .int), 1, 0, 8, 0), 81) ∈ lw_tbl := tk_in 9 _ (List.mem_of_getElem? (i := 165) rfl)
set_option maxRecDepth 100000 in
theorem mc_82 : miC ((⟨"FishGrader", "rule", "()I"⟩, prog_1_method_28_code, 1, (some .int), 0, 0, 7, 0), 82) ∈ lw_tbl := tk_in 2 _ (List.mem_of_getElem? (i := 165) rfl)
set_option maxRecDepth 100000 in
theorem mc_83 : miC ((⟨"FishGraderModel", "rule", "()I"⟩, prog_11_method_73_code, 1, (some .int), 1, 0, 8, 0), 83) ∈ lw_tbl := tk_in 9 _ (List.mem_of_getElem? (i := 161) rfl)
set_option maxRecDepth 100000 in
theorem mc_84 : miC ((⟨"FishGrader", "time", "()I"⟩, prog_1_method_27_code, 1, (some .int), 0, 0, 7, 0), 84) ∈ lw_tbl := tk_in 2 _ (List.mem_of_getElem? (i := 161) rfl)
set_option maxRecDepth 100000 in
theorem mc_85 : miC ((⟨"FishGraderModel", "time", "()I"⟩, prog_11_method_72_code, 1, (some .int), 1, 0, 8, 0), 85) ∈ lw_tbl := tk_in 9 _ (List.mem_of_getElem? (i := 157) rfl)
set_option maxRecDepth 100000 in
theorem mc_86 : miC ((⟨"FishGraderLaw", "worstBox", "(LFishGrader;I[J)I"⟩, method_18_code, 4, (some .int), 4, 3, 0, 3), 86) ∈ lw_tbl := tk_in 5 _ (List.mem_of_getElem? (i := 215) rfl)
set_option maxRecDepth 100000 in
theorem mc_87 : miC ((⟨"FishGraderModel", "worstBox", "(I)I"⟩, prog_11_method_71_code, 5, (some .int), 2, 0, 8, 1), 87) ∈ lw_tbl := tk_in 9 _ (List.mem_of_getElem? (i := 153) rfl)
set_option maxRecDepth 100000 in
theorem mc_88 : miC ((⟨"FishGraderLaw", "nextIced", "(LFishGrader;I[J)I"⟩, method_17_code, 4, (some .int), 2, 3, 0, 3), 88) ∈ lw_tbl := tk_in 5 _ (List.mem_of_getElem? (i := 207) rfl)
set_option maxRecDepth 100000 in
theorem mc_89 : miC ((⟨"FishGraderModel", "nextIced", "(I)I"⟩, prog_11_method_70_code, 4, (some .int), 2, 0, 8, 1), 89) ∈ lw_tbl := tk_in 9 _ (List.mem_of_getElem? (i := 143) rfl)
set_option maxRecDepth 100000 in
theorem mc_90 : miC ((⟨"FishGraderLaw", "icedAt", "(LFishGrader;I[J)I"⟩, method_16_code, 4, (some .int), 3, 3, 0, 3), 90) ∈ lw_tbl := tk_in 5 _ (List.mem_of_getElem? (i := 200) rfl)
set_option maxRecDepth 100000 in
theorem mc_91 : miC ((⟨"FishGraderModel", "icedAt", "(I)I"⟩, prog_11_method_69_code, 2, (some .int), 3, 0, 8, 1), 91) ∈ lw_tbl := tk_in 9 _ (List.mem_of_getElem? (i := 139) rfl)
set_option maxRecDepth 100000 in
theorem mc_92 : miC ((⟨"FishGraderLaw", "closedAt", "(LFishGrader;I[J)I"⟩, method_15_code, 4, (some .int), 3, 3, 0, 3), 92) ∈ lw_tbl := tk_in 5 _ (List.mem_of_getElem? (i := 193) rfl)
set_option maxRecDepth 100000 in
theorem mc_93 : miC ((⟨"FishGraderModel", "closedAt", "(I)I"⟩, prog_11_method_68_code, 2, (some .int), 3, 0, 8, 1), 93) ∈ lw_tbl := tk_in 9 _ (List.mem_of_getElem? (i := 135) rfl)
set_option maxRecDepth 100000 in
theorem mc_94 : miC ((⟨"FishGraderLaw", "giveaway", "(LFishGrader;I[J)I"⟩, method_14_code, 4, (some .int), 3, 3, 0, 3), 94) ∈ lw_tbl := tk_in 5 _ (List.mem_of_getElem? (i := 182) rfl)
set_option maxRecDepth 100000 in
theorem mc_95 : miC ((⟨"FishGraderModel", "giveaway", "(I)I"⟩, prog_11_method_67_code, 2, (some .int), 3, 0, 8, 1), 95) ∈ lw_tbl := tk_in 9 _ (List.mem_of_getElem? (i := 131) rfl)
set_option maxRecDepth 100000 in
theorem mc_96 : miC ((⟨"FishGraderLaw", "closedWeight", "(LFishGrader;I[J)I"⟩, method_13_code, 4, (some .int), 3, 3, 0, 3), 96) ∈ lw_tbl := tk_in 5 _ (List.mem_of_getElem? (i := 175) rfl)
set_option maxRecDepth 100000 in
theorem mc_97 : miC ((⟨"FishGraderModel", "closedWeight", "(I)I"⟩, prog_11_method_66_code, 2, (some .int), 3, 0, 8, 1), 97) ∈ lw_tbl := tk_in 9 _ (List.mem_of_getElem? (i := 127) rfl)
set_option maxRecDepth 100000 in
theorem mc_98 : miC ((⟨"FishGraderLaw", "closedSpecies", "(LFishGrader;I[J)I"⟩, method_12_code, 4, (some .int), 3, 3, 0, 3), 98) ∈ lw_tbl := tk_in 5 _ (List.mem_of_getElem? (i := 163) rfl)
set_option maxRecDepth 100000 in
theorem mc_99 : miC ((⟨"FishGraderModel", "closedSpecies", "(I)I"⟩, prog_11_method_65_code, 2, (some .int), 3, 0, 8, 1), 99) ∈ lw_tbl := tk_in 9 _ (List.mem_of_getElem? (i := 115) rfl)
set_option maxRecDepth 100000 in
theorem mc_100 : miC ((⟨"FishGrader", "closed", "()I"⟩, prog_1_method_19_code, 1, (some .int), 0, 0, 7, 0), 100) ∈ lw_tbl := tk_in 2 _ (List.mem_of_getElem? (i := 157) rfl)
set_option maxRecDepth 100000 in
theorem mc_101 : miC ((⟨"FishGraderModel", "closed", "()I"⟩, prog_11_method_63_code, 1, (some .int), 1, 0, 8, 0), 101) ∈ lw_tbl := tk_in 9 _ (List.mem_of_getElem? (i := 111) rfl)
set_option maxRecDepth 100000 in
theorem mc_102 : miC ((⟨"FishGraderLaw", "itemsIn", "(LFishGrader;II[J)I"⟩, method_11_code, 5, (some .int), 4, 3, 0, 4), 102) ∈ lw_tbl := tk_in 5 _ (List.mem_of_getElem? (i := 148) rfl)
set_option maxRecDepth 100000 in
theorem mc_103 : miC ((⟨"FishGraderModel", "itemsIn", "(II)I"⟩, prog_11_method_62_code, 5, (some .int), 3, 0, 8, 2), 103) ∈ lw_tbl := tk_in 9 _ (List.mem_of_getElem? (i := 107) rfl)
set_option maxRecDepth 100000 in
theorem mc_104 : miC ((⟨"FishGraderLaw", "content", "(LFishGrader;II[J)I"⟩, method_10_code, 5, (some .int), 4, 3, 0, 4), 104) ∈ lw_tbl := tk_in 5 _ (List.mem_of_getElem? (i := 135) rfl)
set_option maxRecDepth 100000 in
theorem mc_105 : miC ((⟨"FishGraderModel", "content", "(II)I"⟩, prog_11_method_61_code, 3, (some .int), 3, 0, 8, 2), 105) ∈ lw_tbl := tk_in 9 _ (List.mem_of_getElem? (i := 96) rfl)
set_option maxRecDepth 100000 in
theorem mc_106 : miC ((⟨"FishGraderLaw", "agreement", "(LFishGrader;I[J)I"⟩, method_9_code, 4, (some .int), 4, 3, 0, 3), 106) ∈ lw_tbl := tk_in 5 _ (List.mem_of_getElem? (i := 127) rfl)
set_option maxRecDepth 100000 in
theorem mc_107 : miC ((⟨"FishGraderModel", "agreement", "(I)I"⟩, prog_11_method_60_code, 2, (some .int), 2, 0, 8, 1), 107) ∈ lw_tbl := tk_in 9 _ (List.mem_of_getElem? (i := 92) rfl)
set_option maxRecDepth 100000 in
theorem mc_108 : miC ((⟨"FishGraderLaw", "boxOf", "(LFishGrader;I[J)I"⟩, method_8_code, 4, (some .int), 3, 3, 0, 3), 108) ∈ lw_tbl := tk_in 5 _ (List.mem_of_getElem? (i := 120) rfl)
set_option maxRecDepth 100000 in
theorem mc_109 : miC ((⟨"FishGraderModel", "boxOf", "(I)I"⟩, prog_11_method_59_code, 2, (some .int), 2, 0, 8, 1), 109) ∈ lw_tbl := tk_in 9 _ (List.mem_of_getElem? (i := 88) rfl)
set_option maxRecDepth 100000 in
theorem mc_110 : miC ((⟨"FishGraderLaw", "stateOf", "(LFishGrader;I[J)I"⟩, method_7_code, 4, (some .int), 3, 3, 0, 3), 110) ∈ lw_tbl := tk_in 5 _ (List.mem_of_getElem? (i := 113) rfl)
set_option maxRecDepth 100000 in
theorem mc_111 : miC ((⟨"FishGraderModel", "stateOf", "(I)I"⟩, prog_11_method_58_code, 2, (some .int), 3, 0, 8, 1), 111) ∈ lw_tbl := tk_in 9 _ (List.mem_of_getElem? (i := 84) rfl)
set_option maxRecDepth 100000 in
theorem mc_112 : miC ((⟨"FishGraderLaw", "speciesOf", "(LFishGrader;I[J)I"⟩, method_6_code, 4, (some .int), 3, 3, 0, 3), 112) ∈ lw_tbl := tk_in 5 _ (List.mem_of_getElem? (i := 106) rfl)
set_option maxRecDepth 100000 in
theorem mc_113 : miC ((⟨"FishGraderModel", "speciesOf", "(I)I"⟩, prog_11_method_57_code, 2, (some .int), 3, 0, 8, 1), 113) ∈ lw_tbl := tk_in 9 _ (List.mem_of_getElem? (i := 80) rfl)
set_option maxRecDepth 100000 in
theorem mc_114 : miC ((⟨"FishGraderLaw", "score", "(LFishGrader;II[J)I"⟩, method_5_code, 5, (some .int), 3, 3, 0, 4), 114) ∈ lw_tbl := tk_in 5 _ (List.mem_of_getElem? (i := 93) rfl)
set_option maxRecDepth 100000 in
theorem mc_115 : miC ((⟨"FishGraderModel", "score", "(II)I"⟩, prog_11_method_56_code, 3, (some .int), 2, 0, 8, 2), 115) ∈ lw_tbl := tk_in 9 _ (List.mem_of_getElem? (i := 72) rfl)
set_option maxRecDepth 100000 in
theorem mc_116 : miC ((⟨"FishGraderLaw", "weight", "(LFishGrader;I[J)I"⟩, method_4_code, 4, (some .int), 3, 3, 0, 3), 116) ∈ lw_tbl := tk_in 5 _ (List.mem_of_getElem? (i := 60) rfl)
set_option maxRecDepth 100000 in
theorem mc_117 : miC ((⟨"FishGraderModel", "weight", "(I)I"⟩, prog_11_method_55_code, 2, (some .int), 3, 0, 8, 1), 117) ∈ lw_tbl := tk_in 9 _ (List.mem_of_getElem? (i := 56) rfl)
set_option maxRecDepth 100000 in
theorem mc_118 : miC ((⟨"FishGrader", "speciesCount", "()I"⟩, prog_1_method_10_code, 1, (some .int), 0, 0, 7, 0), 118) ∈ lw_tbl := tk_in 2 _ (List.mem_of_getElem? (i := 153) rfl)
set_option maxRecDepth 100000 in
theorem mc_119 : miC ((⟨"FishGraderModel", "speciesCount", "()I"⟩, prog_11_method_48_code, 1, (some .int), 0, 0, 8, 0), 119) ∈ lw_tbl := tk_in 9 _ (List.mem_of_getElem? (i := 52) rfl)
set_option maxRecDepth 100000 in
theorem mc_120 : miC ((⟨"FishGrader", "items", "()I"⟩, prog_1_method_9_code, 1, (some .int), 0, 0, 7, 0), 120) ∈ lw_tbl := tk_in 2 _ (List.mem_of_getElem? (i := 149) rfl)
set_option maxRecDepth 100000 in
theorem mc_121 : miC ((⟨"FishGraderModel", "items", "()I"⟩, prog_11_method_47_code, 1, (some .int), 1, 0, 8, 0), 121) ∈ lw_tbl := tk_in 9 _ (List.mem_of_getElem? (i := 44) rfl)
set_option maxRecDepth 100000 in
theorem mc_122 : miC ((⟨"FishGrader", "buffered", "()I"⟩, prog_1_method_8_code, 1, (some .int), 0, 0, 7, 0), 122) ∈ lw_tbl := tk_in 2 _ (List.mem_of_getElem? (i := 145) rfl)
set_option maxRecDepth 100000 in
theorem mc_123 : miC ((⟨"FishGraderModel", "buffered", "()I"⟩, prog_11_method_7_code, 1, (some .int), 0, 0, 8, 0), 123) ∈ lw_tbl := tk_in 8 _ (List.mem_of_getElem? (i := 156) rfl)
set_option maxRecDepth 100000 in
theorem mc_124 : miC ((⟨"FishGrader", "errorPosition", "()I"⟩, prog_1_method_7_code, 1, (some .int), 0, 0, 7, 0), 124) ∈ lw_tbl := tk_in 2 _ (List.mem_of_getElem? (i := 141) rfl)
set_option maxRecDepth 100000 in
theorem mc_125 : miC ((⟨"FishGraderModel", "errorPosition", "()I"⟩, prog_11_method_9_code, 1, (some .int), 0, 0, 8, 0), 125) ∈ lw_tbl := tk_in 8 _ (List.mem_of_getElem? (i := 164) rfl)
set_option maxRecDepth 100000 in
theorem mc_126 : miC ((⟨"FishGrader", "parseError", "()I"⟩, prog_1_method_6_code, 1, (some .int), 0, 0, 7, 0), 126) ∈ lw_tbl := tk_in 2 _ (List.mem_of_getElem? (i := 137) rfl)
set_option maxRecDepth 100000 in
theorem mc_127 : miC ((⟨"FishGraderModel", "parseError", "()I"⟩, prog_11_method_8_code, 1, (some .int), 0, 0, 8, 0), 127) ∈ lw_tbl := tk_in 8 _ (List.mem_of_getElem? (i := 160) rfl)
set_option maxRecDepth 100000 in
theorem mc_128 : miC ((⟨"FishGraderLaw", "load", "(LFishGrader;I[J)I"⟩, method_3_code, 4, (some .int), 11, 3, 0, 3), 128) ∈ lw_tbl := tk_in 2 _ (List.mem_of_getElem? (i := 192) rfl)
set_option maxRecDepth 100000 in
theorem mc_129 : miC ((⟨"FishGraderModel", "load", "(I)I"⟩, prog_11_method_30_code, 3, (some .int), 8, 0, 8, 1), 129) ∈ lw_tbl := tk_in 8 _ (List.mem_of_getElem? (i := 168) rfl)
set_option maxRecDepth 100000 in
theorem mc_130 : miC ((⟨"FishGrader", "append", "(IIIII)I"⟩, prog_1_method_2_code, 6, (some .int), 1, 0, 7, 5), 130) ∈ lw_tbl := tk_in 2 _ (List.mem_of_getElem? (i := 129) rfl)
set_option maxRecDepth 100000 in
theorem mc_131 : miC ((⟨"FishGraderModel", "append", "(IIIII)I"⟩, prog_11_method_6_code, 6, (some .int), 1, 0, 8, 5), 131) ∈ lw_tbl := tk_in 8 _ (List.mem_of_getElem? (i := 148) rfl)
set_option maxRecDepth 100000 in
theorem mc_132 : miC ((⟨"FishGrader$Setup", "<init>", "()V"⟩, prog_6_method_1_code, 1, none, 1, 2, 4, 0), 132) ∈ lw_tbl := tk_in 1 _ (List.mem_of_getElem? (i := 45) rfl)
set_option maxRecDepth 100000 in
theorem mc_133 : miC ((⟨"FishGrader$State", "<init>", "()V"⟩, prog_7_method_1_code, 1, none, 1, 2, 5, 0), 133) ∈ lw_tbl := tk_in 1 _ (List.mem_of_getElem? (i := 144) rfl)
set_option maxRecDepth 100000 in
theorem mc_134 : miC ((⟨"java/lang/StringBuilder", "<init>", "()V"⟩, prog_29_method_1_code, 1, none, 1, 2, 10, 0), 134) ∈ lw_tbl := tk_in 2 _ (List.mem_of_getElem? (i := 52) rfl)
set_option maxRecDepth 100000 in
theorem mc_135 : miC ((⟨"FishGrader", "labelByte", "(I)I"⟩, prog_1_method_75_code, 2, (some .int), 2, 0, 7, 1), 135) ∈ lw_tbl := tk_in 8 _ (List.mem_of_getElem? (i := 40) rfl)
set_option maxRecDepth 100000 in
theorem mc_136 : miC ((⟨"FishGraderModel", "in", "(III)Z"⟩, prog_11_method_3_code, 3, (some .boolean), 0, 1, 8, 3), 136) ∈ lw_tbl := tk_in 8 _ (List.mem_of_getElem? (i := 171) rfl)
set_option maxRecDepth 100000 in
theorem mc_137 : miC ((⟨"FishGrader", "report", "()I"⟩, prog_1_method_73_code, 2, (some .int), 6, 0, 7, 0), 137) ∈ lw_tbl := tk_in 8 _ (List.mem_of_getElem? (i := 28) rfl)
set_option maxRecDepth 100000 in
theorem mc_138 : miC ((⟨"FishGraderModel", "mayAsk", "(Z)Z"⟩, prog_11_method_49_code, 2, (some .boolean), 0, 0, 8, 1), 138) ∈ lw_tbl := tk_in 9 _ (List.mem_of_getElem? (i := 68) rfl)
set_option maxRecDepth 100000 in
theorem mc_139 : miC ((⟨"FishGraderModel", "writes", "(I)V"⟩, prog_11_method_126_code, 2, none, 0, 0, 8, 1), 139) ∈ lw_tbl := tk_in 10 _ (List.mem_of_getElem? (i := 180) rfl)
set_option maxRecDepth 100000 in
theorem mc_140 : miC ((⟨"FishGraderModel", "writesName", "(J)V"⟩, prog_11_method_128_code, 5, none, 1, 0, 8, 1), 140) ∈ lw_tbl := tk_in 10 _ (List.mem_of_getElem? (i := 175) rfl)
set_option maxRecDepth 100000 in
theorem mc_141 : miC ((⟨"FishGraderModel", "boxes", "([III)I"⟩, prog_11_method_88_code, 5, (some .int), 0, 1, 8, 3), 141) ∈ lw_tbl := tk_in 9 _ (List.mem_of_getElem? (i := 225) rfl)
set_option maxRecDepth 100000 in
theorem mc_142 : miC ((⟨"FishGraderModel", "writesNumber", "(I)V"⟩, prog_11_method_127_code, 3, none, 1, 0, 8, 1), 142) ∈ lw_tbl := tk_in 10 _ (List.mem_of_getElem? (i := 184) rfl)
set_option maxRecDepth 100000 in
theorem mc_143 : miC ((⟨"FishGraderModel", "overs", "([III)I"⟩, prog_11_method_87_code, 5, (some .int), 0, 1, 8, 3), 143) ∈ lw_tbl := tk_in 9 _ (List.mem_of_getElem? (i := 218) rfl)
set_option maxRecDepth 100000 in
theorem mc_144 : miC ((⟨"FishGraderModel", "earned", "([II)I"⟩, prog_11_method_92_code, 6, (some .int), 1, 0, 8, 2), 144) ∈ lw_tbl := tk_in 9 _ (List.mem_of_getElem? (i := 236) rfl)
set_option maxRecDepth 100000 in
theorem mc_145 : miC ((⟨"FishGraderModel", "writesWord", "(Ljava/lang/String;)V"⟩, prog_11_method_129_code, 3, none, 2, 0, 8, 1), 145) ∈ lw_tbl := tk_in 10 _ (List.mem_of_getElem? (i := 189) rfl)
set_option maxRecDepth 100000 in
theorem mc_146 : miC ((⟨"FishGraderModel", "earnedByAll", "([I)J"⟩, prog_11_method_93_code, 5, (some .long), 2, 0, 8, 1), 146) ∈ lw_tbl := tk_in 10 _ (List.mem_of_getElem? (i := 80) rfl)
set_option maxRecDepth 100000 in
theorem mc_147 : miC ((⟨"FishGrader", "label", "(I)I"⟩, prog_1_method_72_code, 3, (some .int), 5, 0, 7, 1), 147) ∈ lw_tbl := tk_in 7 _ (List.mem_of_getElem? (i := 190) rfl)
set_option maxRecDepth 100000 in
theorem mc_148 : miC ((⟨"FishGraderModel", "isBox", "(I)Z"⟩, prog_11_method_53_code, 2, (some .boolean), 1, 0, 8, 1), 148) ∈ lw_tbl := tk_in 9 _ (List.mem_of_getElem? (i := 123) rfl)
set_option maxRecDepth 100000 in
theorem mc_149 : miC ((⟨"FishGrader", "restore", "()I"⟩, prog_1_method_69_code, 1, (some .int), 2, 0, 7, 0), 149) ∈ lw_tbl := tk_in 7 _ (List.mem_of_getElem? (i := 182) rfl)
set_option maxRecDepth 100000 in
theorem mc_150 : miC ((⟨"FishGraderModel", "copy", "([II[II)V"⟩, prog_11_method_31_code, 5, none, 0, 1, 8, 4), 150) ∈ lw_tbl := tk_in 9 _ (List.mem_of_getElem? (i := 40) rfl)
set_option maxRecDepth 100000 in
theorem mc_151 : miC ((⟨"FishGrader", "save", "()I"⟩, prog_1_method_68_code, 1, (some .int), 2, 0, 7, 0), 151) ∈ lw_tbl := tk_in 7 _ (List.mem_of_getElem? (i := 175) rfl)
set_option maxRecDepth 100000 in
theorem mc_152 : miC ((⟨"FishGrader", "undo", "()I"⟩, prog_1_method_66_code, 2, (some .int), 0, 0, 7, 0), 152) ∈ lw_tbl := tk_in 7 _ (List.mem_of_getElem? (i := 167) rfl)
set_option maxRecDepth 100000 in
theorem mc_153 : miC ((⟨"FishGrader", "moveQuota", "(III)I"⟩, prog_1_method_65_code, 4, (some .int), 3, 0, 7, 3), 153) ∈ lw_tbl := tk_in 7 _ (List.mem_of_getElem? (i := 159) rfl)
set_option maxRecDepth 100000 in
theorem mc_154 : miC ((⟨"FishGraderModel", "isKind", "(I)Z"⟩, prog_11_method_51_code, 2, (some .boolean), 1, 0, 8, 1), 154) ∈ lw_tbl := tk_in 9 _ (List.mem_of_getElem? (i := 76) rfl)
set_option maxRecDepth 100000 in
theorem mc_155 : miC ((⟨"FishGraderModel", "mayMove", "(III)Z"⟩, prog_11_method_104_code, 4, (some .boolean), 0, 0, 8, 3), 155) ∈ lw_tbl := tk_in 10 _ (List.mem_of_getElem? (i := 84) rfl)
set_option maxRecDepth 100000 in
theorem mc_156 : miC ((⟨"FishGraderModel", "throwsAt", "(I)I"⟩, prog_11_method_4_code, 2, (some .int), 0, 0, 8, 1), 156) ∈ lw_tbl := tk_in 8 _ (List.mem_of_getElem? (i := 175) rfl)
set_option maxRecDepth 100000 in
theorem mc_157 : miC ((⟨"FishGraderModel", "remember", "()V"⟩, prog_11_method_32_code, 2, none, 1, 0, 8, 0), 157) ∈ lw_tbl := tk_in 10 _ (List.mem_of_getElem? (i := 115) rfl)
set_option maxRecDepth 100000 in
theorem mc_158 : miC ((⟨"FishGrader", "setTarget", "(II)I"⟩, prog_1_method_64_code, 4, (some .int), 3, 0, 7, 2), 158) ∈ lw_tbl := tk_in 7 _ (List.mem_of_getElem? (i := 152) rfl)
set_option maxRecDepth 100000 in
theorem mc_159 : miC ((⟨"FishGraderModel", "sets", "(II)I"⟩, prog_11_method_117_code, 4, (some .int), 2, 0, 8, 2), 159) ∈ lw_tbl := tk_in 10 _ (List.mem_of_getElem? (i := 139) rfl)
set_option maxRecDepth 100000 in
theorem mc_160 : miC ((⟨"FishGrader", "setLimit", "(I)I"⟩, prog_1_method_63_code, 3, (some .int), 3, 0, 7, 1), 160) ∈ lw_tbl := tk_in 7 _ (List.mem_of_getElem? (i := 145) rfl)
set_option maxRecDepth 100000 in
theorem mc_161 : miC ((⟨"FishGrader", "setRule", "(I)I"⟩, prog_1_method_62_code, 3, (some .int), 3, 0, 7, 1), 161) ∈ lw_tbl := tk_in 7 _ (List.mem_of_getElem? (i := 138) rfl)
set_option maxRecDepth 100000 in
theorem mc_162 : miC ((⟨"FishGrader", "addItem", "(IIII)I"⟩, prog_1_method_61_code, 6, (some .int), 4, 0, 7, 4), 162) ∈ lw_tbl := tk_in 7 _ (List.mem_of_getElem? (i := 126) rfl)
set_option maxRecDepth 100000 in
theorem mc_163 : miC ((⟨"FishGraderModel", "weigh", "(JJI)I"⟩, prog_11_method_23_code, 5, (some .int), 0, 1, 8, 3), 163) ∈ lw_tbl := tk_in 9 _ (List.mem_of_getElem? (i := 24) rfl)
set_option maxRecDepth 100000 in
theorem mc_164 : miC ((⟨"FishGraderModel", "kindBy", "([II[I)I"⟩, prog_11_method_28_code, 3, (some .int), 2, 1, 8, 3), 164) ∈ lw_tbl := tk_in 9 _ (List.mem_of_getElem? (i := 30) rfl)
set_option maxRecDepth 100000 in
theorem mc_165 : miC ((⟨"FishGrader", "release", "(II)I"⟩, prog_1_method_60_code, 6, (some .int), 3, 0, 7, 2), 165) ∈ lw_tbl := tk_in 7 _ (List.mem_of_getElem? (i := 116) rfl)
set_option maxRecDepth 100000 in
theorem mc_166 : miC ((⟨"FishGraderModel", "isPlace", "(II)Z"⟩, prog_11_method_52_code, 3, (some .boolean), 2, 0, 8, 2), 166) ∈ lw_tbl := tk_in 9 _ (List.mem_of_getElem? (i := 100) rfl)
set_option maxRecDepth 100000 in
theorem mc_167 : miC ((⟨"FishGraderModel", "leaves", "(I)I"⟩, prog_11_method_113_code, 4, (some .int), 0, 0, 8, 1), 167) ∈ lw_tbl := tk_in 10 _ (List.mem_of_getElem? (i := 123) rfl)
set_option maxRecDepth 100000 in
theorem mc_168 : miC ((⟨"FishGraderModel", "puts", "([III)I"⟩, prog_11_method_38_code, 6, (some .int), 2, 0, 8, 3), 168) ∈ lw_tbl := tk_in 10 _ (List.mem_of_getElem? (i := 48) rfl)
set_option maxRecDepth 100000 in
theorem mc_169 : miC ((⟨"FishGrader", "combine", "(II)I"⟩, prog_1_method_59_code, 4, (some .int), 4, 0, 7, 2), 169) ∈ lw_tbl := tk_in 7 _ (List.mem_of_getElem? (i := 85) rfl)
set_option maxRecDepth 100000 in
theorem mc_170 : miC ((⟨"FishGraderModel", "bestSet", "(II)I"⟩, prog_11_method_108_code, 8, (some .int), 1, 0, 8, 2), 170) ∈ lw_tbl := tk_in 10 _ (List.mem_of_getElem? (i := 92) rfl)
set_option maxRecDepth 100000 in
theorem mc_171 : miC ((⟨"FishGraderModel", "weightOfSet", "(II)I"⟩, prog_11_method_107_code, 5, (some .int), 0, 0, 8, 2), 171) ∈ lw_tbl := tk_in 10 _ (List.mem_of_getElem? (i := 96) rfl)
set_option maxRecDepth 100000 in
theorem mc_172 : miC ((⟨"FishGraderModel", "cell", "(II)I"⟩, prog_11_method_37_code, 2, (some .int), 0, 1, 8, 2), 172) ∈ lw_tbl := tk_in 9 _ (List.mem_of_getElem? (i := 103) rfl)
set_option maxRecDepth 100000 in
theorem mc_173 : miC ((⟨"FishGraderModel", "closes", "([III)I"⟩, prog_11_method_39_code, 7, (some .int), 1, 0, 8, 3), 173) ∈ lw_tbl := tk_in 10 _ (List.mem_of_getElem? (i := 52) rfl)
set_option maxRecDepth 100000 in
theorem mc_174 : miC ((⟨"FishGrader", "advance", "(I)I"⟩, prog_1_method_58_code, 3, (some .int), 6, 0, 7, 1), 174) ∈ lw_tbl := tk_in 7 _ (List.mem_of_getElem? (i := 69) rfl)
set_option maxRecDepth 100000 in
theorem mc_175 : miC ((⟨"FishGraderModel", "areTicks", "(III)Z"⟩, prog_11_method_97_code, 4, (some .boolean), 1, 0, 8, 3), 175) ∈ lw_tbl := tk_in 10 _ (List.mem_of_getElem? (i := 12) rfl)
set_option maxRecDepth 100000 in
theorem mc_176 : miC ((⟨"FishGraderModel", "ticks", "([II)V"⟩, prog_11_method_45_code, 4, none, 5, 0, 8, 2), 176) ∈ lw_tbl := tk_in 10 _ (List.mem_of_getElem? (i := 20) rfl)
set_option maxRecDepth 100000 in
theorem mc_177 : miC ((⟨"FishGrader", "iceNeeded", "()I"⟩, prog_1_method_54_code, 1, (some .int), 2, 0, 7, 0), 177) ∈ lw_tbl := tk_in 7 _ (List.mem_of_getElem? (i := 57) rfl)
set_option maxRecDepth 100000 in
theorem mc_178 : miC ((⟨"FishGraderModel", "needOf", "([II)I"⟩, prog_11_method_33_code, 3, (some .int), 0, 0, 8, 2), 178) ∈ lw_tbl := tk_in 10 _ (List.mem_of_getElem? (i := 33) rfl)
set_option maxRecDepth 100000 in
theorem mc_179 : miC ((⟨"FishGrader", "lookahead", "(III)I"⟩, prog_1_method_52_code, 9, (some .int), 3, 0, 7, 3), 179) ∈ lw_tbl := tk_in 7 _ (List.mem_of_getElem? (i := 43) rfl)
set_option maxRecDepth 100000 in
theorem mc_180 : miC ((⟨"FishGrader", "combination", "(II)I"⟩, prog_1_method_51_code, 3, (some .int), 3, 0, 7, 2), 180) ∈ lw_tbl := tk_in 7 _ (List.mem_of_getElem? (i := 18) rfl)
set_option maxRecDepth 100000 in
theorem mc_181 : miC ((⟨"FishGrader", "bestLimit", "(I)I"⟩, prog_1_method_50_code, 6, (some .int), 6, 0, 7, 1), 181) ∈ lw_tbl := tk_in 7 _ (List.mem_of_getElem? (i := 11) rfl)
set_option maxRecDepth 100000 in
theorem mc_182 : miC ((⟨"FishGraderModel", "tries", "()V"⟩, prog_11_method_96_code, 1, none, 1, 0, 8, 0), 182) ∈ lw_tbl := tk_in 10 _ (List.mem_of_getElem? (i := 16) rfl)
set_option maxRecDepth 100000 in
theorem mc_183 : miC ((⟨"FishGrader", "bestMove", "(II)I"⟩, prog_1_method_49_code, 8, (some .int), 6, 0, 7, 2), 183) ∈ lw_tbl := tk_in 6 _ (List.mem_of_getElem? (i := 230) rfl)
set_option maxRecDepth 100000 in
theorem mc_184 : miC ((⟨"FishGrader", "bestRule", "(I)I"⟩, prog_1_method_48_code, 12, (some .int), 6, 0, 7, 1), 184) ∈ lw_tbl := tk_in 6 _ (List.mem_of_getElem? (i := 223) rfl)
set_option maxRecDepth 100000 in
theorem mc_185 : miC ((⟨"FishGrader", "firstLate", "(I)I"⟩, prog_1_method_47_code, 4, (some .int), 5, 0, 7, 1), 185) ∈ lw_tbl := tk_in 6 _ (List.mem_of_getElem? (i := 216) rfl)
set_option maxRecDepth 100000 in
theorem mc_186 : miC ((⟨"FishGraderModel", "lateOf", "([I)I"⟩, prog_11_method_79_code, 3, (some .int), 1, 1, 8, 1), 186) ∈ lw_tbl := tk_in 9 _ (List.mem_of_getElem? (i := 184) rfl)
set_option maxRecDepth 100000 in
theorem mc_187 : miC ((⟨"FishGraderModel", "tick", "([I)V"⟩, prog_11_method_44_code, 2, none, 4, 0, 8, 1), 187) ∈ lw_tbl := tk_in 10 _ (List.mem_of_getElem? (i := 24) rfl)
set_option maxRecDepth 100000 in
theorem mc_188 : miC ((⟨"FishGrader", "firstClosed", "(II)I"⟩, prog_1_method_46_code, 5, (some .int), 5, 0, 7, 2), 188) ∈ lw_tbl := tk_in 6 _ (List.mem_of_getElem? (i := 208) rfl)
set_option maxRecDepth 100000 in
theorem mc_189 : miC ((⟨"FishGrader", "giveawayIn", "(I)I"⟩, prog_1_method_45_code, 2, (some .int), 6, 0, 7, 1), 189) ∈ lw_tbl := tk_in 6 _ (List.mem_of_getElem? (i := 193) rfl)
set_option maxRecDepth 100000 in
theorem mc_190 : miC ((⟨"FishGrader", "closedIn", "(I)I"⟩, prog_1_method_44_code, 2, (some .int), 6, 0, 7, 1), 190) ∈ lw_tbl := tk_in 6 _ (List.mem_of_getElem? (i := 103) rfl)
set_option maxRecDepth 100000 in
theorem mc_191 : miC ((⟨"FishGrader", "meanGiveaway", "(IZ)I"⟩, prog_1_method_42_code, 6, (some .int), 2, 0, 7, 2), 191) ∈ lw_tbl := tk_in 6 _ (List.mem_of_getElem? (i := 89) rfl)
set_option maxRecDepth 100000 in
theorem mc_192 : miC ((⟨"FishGraderModel", "common", "(II)I"⟩, prog_11_method_90_code, 5, (some .int), 0, 1, 8, 2), 192) ∈ lw_tbl := tk_in 9 _ (List.mem_of_getElem? (i := 228) rfl)
set_option maxRecDepth 100000 in
theorem mc_193 : miC ((⟨"FishGrader", "earnings", "(I)I"⟩, prog_1_method_41_code, 2, (some .int), 2, 0, 7, 1), 193) ∈ lw_tbl := tk_in 6 _ (List.mem_of_getElem? (i := 77) rfl)
set_option maxRecDepth 100000 in
theorem mc_194 : miC ((⟨"FishGrader", "totalGiveaway", "(I)I"⟩, prog_1_method_40_code, 2, (some .int), 2, 0, 7, 1), 194) ∈ lw_tbl := tk_in 6 _ (List.mem_of_getElem? (i := 66) rfl)
set_option maxRecDepth 100000 in
theorem mc_195 : miC ((⟨"FishGrader", "target", "(I)I"⟩, prog_1_method_39_code, 2, (some .int), 2, 0, 7, 1), 195) ∈ lw_tbl := tk_in 6 _ (List.mem_of_getElem? (i := 59) rfl)
set_option maxRecDepth 100000 in
theorem mc_196 : miC ((⟨"FishGraderModel", "ofKind", "(II)I"⟩, prog_11_method_82_code, 3, (some .int), 2, 0, 8, 2), 196) ∈ lw_tbl := tk_in 9 _ (List.mem_of_getElem? (i := 199) rfl)
set_option maxRecDepth 100000 in
theorem mc_197 : miC ((⟨"FishGrader", "quota", "(I)I"⟩, prog_1_method_38_code, 2, (some .int), 2, 0, 7, 1), 197) ∈ lw_tbl := tk_in 6 _ (List.mem_of_getElem? (i := 52) rfl)
set_option maxRecDepth 100000 in
theorem mc_198 : miC ((⟨"FishGrader", "discarded", "(I)I"⟩, prog_1_method_37_code, 2, (some .int), 2, 0, 7, 1), 198) ∈ lw_tbl := tk_in 6 _ (List.mem_of_getElem? (i := 45) rfl)
set_option maxRecDepth 100000 in
theorem mc_199 : miC ((⟨"FishGrader", "landed", "(I)I"⟩, prog_1_method_36_code, 2, (some .int), 2, 0, 7, 1), 199) ∈ lw_tbl := tk_in 6 _ (List.mem_of_getElem? (i := 38) rfl)
set_option maxRecDepth 100000 in
theorem mc_200 : miC ((⟨"FishGrader$Items", "countFate", "(I)I"⟩, prog_3_method_13_code, 4, (some .int), 0, 0, 1, 1), 200) ∈ lw_tbl := tk_in 2 _ (List.mem_of_getElem? (i := 185) rfl)
set_option maxRecDepth 100000 in
theorem mc_201 : miC ((⟨"FishGraderModel", "told", "(I)I"⟩, prog_11_method_46_code, 2, (some .int), 0, 0, 8, 1), 201) ∈ lw_tbl := tk_in 9 _ (List.mem_of_getElem? (i := 48) rfl)
set_option maxRecDepth 100000 in
theorem mc_202 : miC ((⟨"FishGrader", "late", "()I"⟩, prog_1_method_34_code, 1, (some .int), 2, 0, 7, 0), 202) ∈ lw_tbl := tk_in 6 _ (List.mem_of_getElem? (i := 23) rfl)
set_option maxRecDepth 100000 in
theorem mc_203 : miC ((⟨"FishGrader", "isStopped", "(I)Z"⟩, prog_1_method_33_code, 2, (some .boolean), 1, 0, 7, 1), 203) ∈ lw_tbl := tk_in 6 _ (List.mem_of_getElem? (i := 7) rfl)
set_option maxRecDepth 100000 in
theorem mc_204 : miC ((⟨"FishGraderModel", "stopsAt", "(I)Z"⟩, prog_11_method_43_code, 3, (some .boolean), 1, 0, 8, 1), 204) ∈ lw_tbl := tk_in 10 _ (List.mem_of_getElem? (i := 4) rfl)
set_option maxRecDepth 100000 in
theorem mc_205 : miC ((⟨"FishGrader", "poolItem", "(I)I"⟩, prog_1_method_30_code, 2, (some .int), 2, 0, 7, 1), 205) ∈ lw_tbl := tk_in 5 _ (List.mem_of_getElem? (i := 235) rfl)
set_option maxRecDepth 100000 in
theorem mc_206 : miC ((⟨"FishGrader", "worstBox", "(I)I"⟩, prog_1_method_26_code, 2, (some .int), 3, 0, 7, 1), 206) ∈ lw_tbl := tk_in 5 _ (List.mem_of_getElem? (i := 219) rfl)
set_option maxRecDepth 100000 in
theorem mc_207 : miC ((⟨"FishGrader", "nextIced", "(I)I"⟩, prog_1_method_25_code, 2, (some .int), 1, 0, 7, 1), 207) ∈ lw_tbl := tk_in 5 _ (List.mem_of_getElem? (i := 211) rfl)
set_option maxRecDepth 100000 in
theorem mc_208 : miC ((⟨"FishGraderModel", "nextWaiting", "([II)I"⟩, prog_11_method_34_code, 4, (some .int), 1, 1, 8, 2), 208) ∈ lw_tbl := tk_in 9 _ (List.mem_of_getElem? (i := 146) rfl)
set_option maxRecDepth 100000 in
theorem mc_209 : miC ((⟨"FishGrader", "icedAt", "(I)I"⟩, prog_1_method_24_code, 2, (some .int), 2, 0, 7, 1), 209) ∈ lw_tbl := tk_in 5 _ (List.mem_of_getElem? (i := 204) rfl)
set_option maxRecDepth 100000 in
theorem mc_210 : miC ((⟨"FishGraderModel", "ofBox", "(II)I"⟩, prog_11_method_64_code, 3, (some .int), 2, 0, 8, 2), 210) ∈ lw_tbl := tk_in 9 _ (List.mem_of_getElem? (i := 119) rfl)
set_option maxRecDepth 100000 in
theorem mc_211 : miC ((⟨"FishGrader", "closedAt", "(I)I"⟩, prog_1_method_23_code, 2, (some .int), 2, 0, 7, 1), 211) ∈ lw_tbl := tk_in 5 _ (List.mem_of_getElem? (i := 197) rfl)
set_option maxRecDepth 100000 in
theorem mc_212 : miC ((⟨"FishGrader", "giveaway", "(I)I"⟩, prog_1_method_22_code, 2, (some .int), 2, 0, 7, 1), 212) ∈ lw_tbl := tk_in 5 _ (List.mem_of_getElem? (i := 186) rfl)
set_option maxRecDepth 100000 in
theorem mc_213 : miC ((⟨"FishGrader", "closedWeight", "(I)I"⟩, prog_1_method_21_code, 2, (some .int), 2, 0, 7, 1), 213) ∈ lw_tbl := tk_in 5 _ (List.mem_of_getElem? (i := 179) rfl)
set_option maxRecDepth 100000 in
theorem mc_214 : miC ((⟨"FishGrader", "closedSpecies", "(I)I"⟩, prog_1_method_20_code, 2, (some .int), 2, 0, 7, 1), 214) ∈ lw_tbl := tk_in 5 _ (List.mem_of_getElem? (i := 167) rfl)
set_option maxRecDepth 100000 in
theorem mc_215 : miC ((⟨"FishGrader", "itemsIn", "(II)I"⟩, prog_1_method_18_code, 3, (some .int), 3, 0, 7, 2), 215) ∈ lw_tbl := tk_in 5 _ (List.mem_of_getElem? (i := 152) rfl)
set_option maxRecDepth 100000 in
theorem mc_216 : miC ((⟨"FishGrader", "content", "(II)I"⟩, prog_1_method_17_code, 3, (some .int), 3, 0, 7, 2), 216) ∈ lw_tbl := tk_in 5 _ (List.mem_of_getElem? (i := 139) rfl)
set_option maxRecDepth 100000 in
theorem mc_217 : miC ((⟨"FishGrader", "agreement", "(I)I"⟩, prog_1_method_16_code, 2, (some .int), 3, 0, 7, 1), 217) ∈ lw_tbl := tk_in 5 _ (List.mem_of_getElem? (i := 131) rfl)
set_option maxRecDepth 100000 in
theorem mc_218 : miC ((⟨"FishGraderModel", "isItem", "(I)Z"⟩, prog_11_method_50_code, 2, (some .boolean), 1, 0, 8, 1), 218) ∈ lw_tbl := tk_in 9 _ (List.mem_of_getElem? (i := 64) rfl)
set_option maxRecDepth 100000 in
theorem mc_219 : miC ((⟨"FishGraderModel", "lead", "([III)I"⟩, prog_11_method_27_code, 6, (some .int), 1, 1, 8, 3), 219) ∈ lw_tbl := tk_in 9 _ (List.mem_of_getElem? (i := 33) rfl)
set_option maxRecDepth 100000 in
theorem mc_220 : miC ((⟨"FishGrader", "boxOf", "(I)I"⟩, prog_1_method_15_code, 2, (some .int), 2, 0, 7, 1), 220) ∈ lw_tbl := tk_in 5 _ (List.mem_of_getElem? (i := 124) rfl)
set_option maxRecDepth 100000 in
theorem mc_221 : miC ((⟨"FishGrader", "stateOf", "(I)I"⟩, prog_1_method_14_code, 2, (some .int), 2, 0, 7, 1), 221) ∈ lw_tbl := tk_in 5 _ (List.mem_of_getElem? (i := 117) rfl)
set_option maxRecDepth 100000 in
theorem mc_222 : miC ((⟨"FishGraderModel", "ofItem", "(II)I"⟩, prog_11_method_54_code, 3, (some .int), 2, 0, 8, 2), 222) ∈ lw_tbl := tk_in 9 _ (List.mem_of_getElem? (i := 60) rfl)
set_option maxRecDepth 100000 in
theorem mc_223 : miC ((⟨"FishGrader", "speciesOf", "(I)I"⟩, prog_1_method_13_code, 2, (some .int), 2, 0, 7, 1), 223) ∈ lw_tbl := tk_in 5 _ (List.mem_of_getElem? (i := 110) rfl)
set_option maxRecDepth 100000 in
theorem mc_224 : miC ((⟨"FishGrader", "score", "(II)I"⟩, prog_1_method_12_code, 3, (some .int), 2, 0, 7, 2), 224) ∈ lw_tbl := tk_in 5 _ (List.mem_of_getElem? (i := 97) rfl)
set_option maxRecDepth 100000 in
theorem mc_225 : miC ((⟨"FishGrader", "weight", "(I)I"⟩, prog_1_method_11_code, 2, (some .int), 2, 0, 7, 1), 225) ∈ lw_tbl := tk_in 5 _ (List.mem_of_getElem? (i := 65) rfl)
set_option maxRecDepth 100000 in
theorem mc_226 : miC ((⟨"FishGrader", "load", "(I)I"⟩, prog_1_method_4_code, 4, (some .int), 10, 0, 7, 1), 226) ∈ lw_tbl := tk_in 2 _ (List.mem_of_getElem? (i := 198) rfl)
set_option maxRecDepth 100000 in
theorem mc_227 : miC ((⟨"FishGraderModel", "readText", "()V"⟩, prog_11_method_29_code, 2, none, 7, 0, 8, 0), 227) ∈ lw_tbl := tk_in 8 _ (List.mem_of_getElem? (i := 179) rfl)
set_option maxRecDepth 100000 in
theorem mc_228 : miC ((⟨"FishGrader", "appendWord", "(I)V"⟩, prog_1_method_3_code, 3, none, 0, 0, 7, 1), 228) ∈ lw_tbl := tk_in 2 _ (List.mem_of_getElem? (i := 133) rfl)
set_option maxRecDepth 100000 in
theorem mc_229 : miC ((⟨"FishGraderModel", "four", "(I)V"⟩, prog_11_method_5_code, 3, none, 0, 0, 8, 1), 229) ∈ lw_tbl := tk_in 8 _ (List.mem_of_getElem? (i := 152) rfl)
set_option maxRecDepth 100000 in
theorem mc_230 : miC ((⟨"FishGrader$Kind", "<init>", "()V"⟩, prog_4_method_1_code, 1, none, 0, 2, 2, 0), 230) ∈ lw_tbl := tk_in 1 _ (List.mem_of_getElem? (i := 51) rfl)
set_option maxRecDepth 100000 in
theorem mc_231 : miC ((⟨"FishGrader$Items", "<init>", "()V"⟩, prog_3_method_1_code, 1, none, 0, 2, 1, 0), 231) ∈ lw_tbl := tk_in 1 _ (List.mem_of_getElem? (i := 150) rfl)
set_option maxRecDepth 100000 in
theorem mc_232 : miC ((⟨"FishGrader$Boxes", "<init>", "()V"⟩, prog_2_method_1_code, 1, none, 0, 2, 0, 0), 232) ∈ lw_tbl := tk_in 1 _ (List.mem_of_getElem? (i := 190) rfl)
set_option maxRecDepth 100000 in
theorem mc_233 : miC ((⟨"java/lang/AbstractStringBuilder", "<init>", "(I)V"⟩, prog_13_method_2_code, 2, none, 0, 2, 10, 1), 233) ∈ lw_tbl := tk_in 2 _ (List.mem_of_getElem? (i := 55) rfl)
set_option maxRecDepth 100000 in
theorem mc_234 : miC ((⟨"java/lang/StringBuilder", "length", "()I"⟩, prog_29_method_93_code, 1, (some .int), 1, 0, 10, 0), 234) ∈ lw_tbl := tk_in 4 _ (List.mem_of_getElem? (i := 108) rfl)
set_option maxRecDepth 100000 in
theorem mc_235 : miC ((⟨"java/lang/StringBuilder", "charAt", "(I)C"⟩, prog_29_method_88_code, 2, (some .char), 1, 0, 10, 1), 235) ∈ lw_tbl := tk_in 8 _ (List.mem_of_getElem? (i := 45) rfl)
set_option maxRecDepth 100000 in
theorem mc_236 : miC ((⟨"FishGrader", "requireGrader", "()V"⟩, prog_1_method_76_code, 1, none, 0, 0, 7, 0), 236) ∈ lw_tbl := tk_in 5 _ (List.mem_of_getElem? (i := 73) rfl)
set_option maxRecDepth 100000 in
theorem mc_237 : miC ((⟨"java/lang/StringBuilder", "setLength", "(I)V"⟩, prog_29_method_89_code, 2, none, 4, 0, 10, 1), 237) ∈ lw_tbl := tk_in 7 _ (List.mem_of_getElem? (i := 194) rfl)
set_option maxRecDepth 100000 in
theorem mc_238 : miC ((⟨"FishGrader", "reportSpecies", "(I)V"⟩, prog_1_method_74_code, 2, none, 5, 0, 7, 1), 238) ∈ lw_tbl := tk_in 8 _ (List.mem_of_getElem? (i := 32) rfl)
set_option maxRecDepth 100000 in
theorem mc_239 : miC ((⟨"java/lang/StringBuilder", "append", "(Ljava/lang/String;)Ljava/lang/StringBuilder;"⟩, prog_29_method_7_code, 2, (some (.object "java/lang/StringBuilder")), 4, 0, 10, 1), 239) ∈ lw_tbl := tk_in 4 _ (List.mem_of_getElem? (i := 170) rfl)
set_option maxRecDepth 100000 in
theorem mc_240 : miC ((⟨"java/lang/StringBuilder", "append", "(I)Ljava/lang/StringBuilder;"⟩, prog_29_method_15_code, 2, (some (.object "java/lang/StringBuilder")), 4, 0, 10, 1), 240) ∈ lw_tbl := tk_in 4 _ (List.mem_of_getElem? (i := 135) rfl)
set_option maxRecDepth 100000 in
theorem mc_241 : miC ((⟨"java/lang/StringBuilder", "append", "(C)Ljava/lang/StringBuilder;"⟩, prog_29_method_14_code, 2, (some (.object "java/lang/StringBuilder")), 4, 0, 10, 1), 241) ∈ lw_tbl := tk_in 4 _ (List.mem_of_getElem? (i := 15) rfl)
set_option maxRecDepth 100000 in
theorem mc_242 : miC ((⟨"FishGrader$State", "earnedByAll", "(LFishGrader$Setup;)I"⟩, prog_7_method_24_code, 4, (some .int), 2, 0, 5, 1), 242) ∈ lw_tbl := tk_in 6 _ (List.mem_of_getElem? (i := 235) rfl)
set_option maxRecDepth 100000 in
theorem mc_243 : miC ((⟨"FishGraderModel", "isLate", "([II)Z"⟩, prog_11_method_78_code, 2, (some .boolean), 0, 1, 8, 2), 243) ∈ lw_tbl := tk_in 9 _ (List.mem_of_getElem? (i := 187) rfl)
set_option maxRecDepth 100000 in
theorem mc_244 : miC ((⟨"java/lang/String", "length", "()I"⟩, prog_28_method_54_code, 1, (some .int), 1, 0, 9, 0), 244) ∈ lw_tbl := tk_in 3 _ (List.mem_of_getElem? (i := 137) rfl)
set_option maxRecDepth 100000 in
theorem mc_245 : miC ((⟨"java/lang/String", "charAt", "(I)C"⟩, prog_28_method_56_code, 2, (some .char), 1, 0, 9, 1), 245) ∈ lw_tbl := tk_in 3 _ (List.mem_of_getElem? (i := 146) rfl)
set_option maxRecDepth 100000 in
theorem mc_246 : miC ((⟨"FishGrader", "requireBox", "(I)V"⟩, prog_1_method_80_code, 2, none, 1, 0, 7, 1), 246) ∈ lw_tbl := tk_in 5 _ (List.mem_of_getElem? (i := 171) rfl)
set_option maxRecDepth 100000 in
theorem mc_247 : miC ((⟨"FishGrader$Setup", "kindOf", "(I)LFishGrader$Kind;"⟩, prog_6_method_3_code, 2, (some (.object "FishGrader$Kind")), 0, 0, 4, 1), 247) ∈ lw_tbl := tk_in 4 _ (List.mem_of_getElem? (i := 5) rfl)
set_option maxRecDepth 100000 in
theorem mc_248 : miC ((⟨"FishGrader$Boxes", "excess", "(I)I"⟩, prog_2_method_5_code, 2, (some .int), 0, 0, 0, 1), 248) ∈ lw_tbl := tk_in 5 _ (List.mem_of_getElem? (i := 190) rfl)
set_option maxRecDepth 100000 in
theorem mc_249 : miC ((⟨"FishGrader$State", "copyFrom", "(LFishGrader$State;)V"⟩, prog_7_method_3_code, 2, none, 1, 0, 5, 1), 249) ∈ lw_tbl := tk_in 6 _ (List.mem_of_getElem? (i := 111) rfl)
set_option maxRecDepth 100000 in
theorem mc_250 : miC ((⟨"FishGrader", "requireSpecies", "(I)V"⟩, prog_1_method_78_code, 2, none, 1, 0, 7, 1), 250) ∈ lw_tbl := tk_in 5 _ (List.mem_of_getElem? (i := 101) rfl)
set_option maxRecDepth 100000 in
theorem mc_251 : miC ((⟨"FishGrader", "requireRange", "(III)V"⟩, prog_1_method_82_code, 3, none, 0, 1, 7, 3), 251) ∈ lw_tbl := tk_in 6 _ (List.mem_of_getElem? (i := 11) rfl)
set_option maxRecDepth 100000 in
theorem mc_252 : miC ((⟨"FishGrader$State", "canMoveQuota", "(III)Z"⟩, prog_7_method_20_code, 4, (some .boolean), 0, 0, 5, 3), 252) ∈ lw_tbl := tk_in 7 _ (List.mem_of_getElem? (i := 0) rfl)
set_option maxRecDepth 100000 in
theorem mc_253 : miC ((⟨"FishGrader", "remember", "()V"⟩, prog_1_method_70_code, 2, none, 2, 0, 7, 0), 253) ∈ lw_tbl := tk_in 7 _ (List.mem_of_getElem? (i := 73) rfl)
set_option maxRecDepth 100000 in
theorem mc_254 : miC ((⟨"FishGrader$State", "shiftQuota", "(III)V"⟩, prog_7_method_21_code, 4, none, 0, 0, 5, 3), 254) ∈ lw_tbl := tk_in 7 _ (List.mem_of_getElem? (i := 4) rfl)
set_option maxRecDepth 100000 in
theorem mc_255 : miC ((⟨"FishGrader$Setup", "weightFor", "(II)I"⟩, prog_6_method_6_code, 5, (some .int), 0, 0, 4, 2), 255) ∈ lw_tbl := tk_in 5 _ (List.mem_of_getElem? (i := 9) rfl)
set_option maxRecDepth 100000 in
theorem mc_256 : miC ((⟨"FishGrader$Items", "addWaiting", "(I)I"⟩, prog_3_method_4_code, 4, (some .int), 0, 0, 1, 1), 256) ∈ lw_tbl := tk_in 5 _ (List.mem_of_getElem? (i := 18) rfl)
set_option maxRecDepth 100000 in
theorem mc_257 : miC ((⟨"FishGrader$Items", "addVote", "(III)V"⟩, prog_3_method_5_code, 4, none, 0, 0, 1, 3), 257) ∈ lw_tbl := tk_in 5 _ (List.mem_of_getElem? (i := 29) rfl)
set_option maxRecDepth 100000 in
theorem mc_258 : miC ((⟨"FishGrader$Items", "determine", "(II)V"⟩, prog_3_method_7_code, 5, none, 3, 0, 1, 2), 258) ∈ lw_tbl := tk_in 5 _ (List.mem_of_getElem? (i := 33) rfl)
set_option maxRecDepth 100000 in
theorem mc_259 : miC ((⟨"FishGraderModel", "bestKind", "([III)I"⟩, prog_11_method_26_code, 5, (some .int), 0, 1, 8, 3), 259) ∈ lw_tbl := tk_in 9 _ (List.mem_of_getElem? (i := 36) rfl)
set_option maxRecDepth 100000 in
theorem mc_260 : miC ((⟨"FishGrader", "requirePoolIndex", "(I)V"⟩, prog_1_method_81_code, 2, none, 1, 0, 7, 1), 260) ∈ lw_tbl := tk_in 5 _ (List.mem_of_getElem? (i := 239) rfl)
set_option maxRecDepth 100000 in
theorem mc_261 : miC ((⟨"FishGrader", "requirePlace", "(II)V"⟩, prog_1_method_79_code, 3, none, 2, 0, 7, 2), 261) ∈ lw_tbl := tk_in 5 _ (List.mem_of_getElem? (i := 143) rfl)
set_option maxRecDepth 100000 in
theorem mc_262 : miC ((⟨"FishGrader$State", "takeFromPool", "(I)V"⟩, prog_7_method_15_code, 3, none, 0, 0, 5, 1), 262) ∈ lw_tbl := tk_in 7 _ (List.mem_of_getElem? (i := 109) rfl)
set_option maxRecDepth 100000 in
theorem mc_263 : miC ((⟨"FishGrader$State", "putIntoBox", "(II)V"⟩, prog_7_method_13_code, 3, none, 0, 0, 5, 2), 263) ∈ lw_tbl := tk_in 6 _ (List.mem_of_getElem? (i := 169) rfl)
set_option maxRecDepth 100000 in
theorem mc_264 : miC ((⟨"FishGrader$State", "closeIfFull", "(II)Z"⟩, prog_7_method_14_code, 5, (some .boolean), 2, 0, 5, 2), 264) ∈ lw_tbl := tk_in 6 _ (List.mem_of_getElem? (i := 173) rfl)
set_option maxRecDepth 100000 in
theorem mc_265 : miC ((⟨"FishGrader$State", "bestSet", "(II)I"⟩, prog_7_method_17_code, 10, (some .int), 1, 0, 5, 2), 265) ∈ lw_tbl := tk_in 7 _ (List.mem_of_getElem? (i := 22) rfl)
set_option maxRecDepth 100000 in
theorem mc_266 : miC ((⟨"FishGrader$State", "putSet", "(III)V"⟩, prog_7_method_16_code, 6, none, 3, 0, 5, 3), 266) ∈ lw_tbl := tk_in 7 _ (List.mem_of_getElem? (i := 105) rfl)
set_option maxRecDepth 100000 in
theorem mc_267 : miC ((⟨"FishGraderModel", "bits", "(I)I"⟩, prog_11_method_106_code, 3, (some .int), 0, 1, 8, 1), 267) ∈ lw_tbl := tk_in 10 _ (List.mem_of_getElem? (i := 99) rfl)
set_option maxRecDepth 100000 in
theorem mc_268 : miC ((⟨"FishGrader$State", "run", "(LFishGrader$Setup;I)V"⟩, prog_7_method_4_code, 4, none, 5, 0, 5, 2), 268) ∈ lw_tbl := tk_in 6 _ (List.mem_of_getElem? (i := 126) rfl)
set_option maxRecDepth 100000 in
theorem mc_269 : miC ((⟨"FishGrader$State", "lackingIce", "(LFishGrader$Setup;)I"⟩, prog_7_method_25_code, 4, (some .int), 1, 0, 5, 1), 269) ∈ lw_tbl := tk_in 7 _ (List.mem_of_getElem? (i := 61) rfl)
set_option maxRecDepth 100000 in
theorem mc_270 : miC ((⟨"FishGrader$Items", "weightsAhead", "(II[I)I"⟩, prog_3_method_14_code, 6, (some .int), 0, 0, 1, 3), 270) ∈ lw_tbl := tk_in 7 _ (List.mem_of_getElem? (i := 47) rfl)
set_option maxRecDepth 100000 in
theorem mc_271 : miC ((⟨"FishGrader", "sumOfSet", "([II)I"⟩, prog_1_method_53_code, 4, (some .int), 0, 1, 7, 2), 271) ∈ lw_tbl := tk_in 7 _ (List.mem_of_getElem? (i := 50) rfl)
set_option maxRecDepth 100000 in
theorem mc_272 : miC ((⟨"FishGrader", "prepareScratch", "()V"⟩, prog_1_method_55_code, 1, none, 2, 0, 7, 0), 272) ∈ lw_tbl := tk_in 6 _ (List.mem_of_getElem? (i := 107) rfl)
set_option maxRecDepth 100000 in
theorem mc_273 : miC ((⟨"FishGrader", "newGiveaway", "()I"⟩, prog_1_method_57_code, 1, (some .int), 2, 0, 7, 0), 273) ∈ lw_tbl := tk_in 6 _ (List.mem_of_getElem? (i := 197) rfl)
set_option maxRecDepth 100000 in
theorem mc_274 : miC ((⟨"FishGrader", "newlyClosed", "()I"⟩, prog_1_method_56_code, 1, (some .int), 0, 0, 7, 0), 274) ∈ lw_tbl := tk_in 6 _ (List.mem_of_getElem? (i := 186) rfl)
set_option maxRecDepth 100000 in
theorem mc_275 : miC ((⟨"FishGrader$State", "countLate", "(LFishGrader$Setup;)I"⟩, prog_7_method_22_code, 4, (some .int), 1, 0, 5, 1), 275) ∈ lw_tbl := tk_in 6 _ (List.mem_of_getElem? (i := 27) rfl)
set_option maxRecDepth 100000 in
theorem mc_276 : miC ((⟨"FishGrader$State", "tick", "(LFishGrader$Setup;)V"⟩, prog_7_method_5_code, 2, none, 4, 0, 5, 1), 276) ∈ lw_tbl := tk_in 6 _ (List.mem_of_getElem? (i := 130) rfl)
set_option maxRecDepth 100000 in
theorem mc_277 : miC ((⟨"FishGraderModel", "ices", "([I)V"⟩, prog_11_method_36_code, 3, none, 2, 0, 8, 1), 277) ∈ lw_tbl := tk_in 10 _ (List.mem_of_getElem? (i := 29) rfl)
set_option maxRecDepth 100000 in
theorem mc_278 : miC ((⟨"FishGraderModel", "handles", "([I)V"⟩, prog_11_method_42_code, 6, none, 3, 0, 8, 1), 278) ∈ lw_tbl := tk_in 10 _ (List.mem_of_getElem? (i := 37) rfl)
set_option maxRecDepth 100000 in
theorem mc_279 : miC ((⟨"FishGrader$Boxes", "countOf", "(I)I"⟩, prog_2_method_8_code, 4, (some .int), 0, 0, 0, 1), 279) ∈ lw_tbl := tk_in 6 _ (List.mem_of_getElem? (i := 93) rfl)
set_option maxRecDepth 100000 in
theorem mc_280 : miC ((⟨"FishGrader$Boxes", "excessOf", "(I)I"⟩, prog_2_method_7_code, 4, (some .int), 1, 0, 0, 1), 280) ∈ lw_tbl := tk_in 6 _ (List.mem_of_getElem? (i := 70) rfl)
set_option maxRecDepth 100000 in
theorem mc_281 : miC ((⟨"FishGrader", "commonDivisor", "(II)I"⟩, prog_1_method_43_code, 3, (some .int), 0, 1, 7, 2), 281) ∈ lw_tbl := tk_in 6 _ (List.mem_of_getElem? (i := 96) rfl)
set_option maxRecDepth 100000 in
theorem mc_282 : miC ((⟨"FishGrader$State", "earned", "(LFishGrader$Setup;I)I"⟩, prog_7_method_23_code, 7, (some .int), 1, 0, 5, 2), 282) ∈ lw_tbl := tk_in 6 _ (List.mem_of_getElem? (i := 81) rfl)
set_option maxRecDepth 100000 in
theorem mc_283 : miC ((⟨"FishGrader$Setup", "stopsAt", "(I)Z"⟩, prog_6_method_5_code, 3, (some .boolean), 0, 0, 4, 1), 283) ∈ lw_tbl := tk_in 6 _ (List.mem_of_getElem? (i := 16) rfl)
set_option maxRecDepth 100000 in
theorem mc_284 : miC ((⟨"FishGrader$Boxes", "byExcess", "(I)I"⟩, prog_2_method_9_code, 3, (some .int), 2, 0, 0, 1), 284) ∈ lw_tbl := tk_in 5 _ (List.mem_of_getElem? (i := 223) rfl)
set_option maxRecDepth 100000 in
theorem mc_285 : miC ((⟨"FishGraderModel", "isAhead", "([III)Z"⟩, prog_11_method_35_code, 3, (some .boolean), 0, 1, 8, 3), 285) ∈ lw_tbl := tk_in 9 _ (List.mem_of_getElem? (i := 149) rfl)
set_option maxRecDepth 100000 in
theorem mc_286 : miC ((⟨"FishGrader$Items", "countInOpenBox", "(II)I"⟩, prog_3_method_11_code, 5, (some .int), 1, 0, 1, 2), 286) ∈ lw_tbl := tk_in 5 _ (List.mem_of_getElem? (i := 156) rfl)
set_option maxRecDepth 100000 in
theorem mc_287 : miC ((⟨"FishGrader", "requireItem", "(I)V"⟩, prog_1_method_77_code, 2, none, 1, 0, 7, 1), 287) ∈ lw_tbl := tk_in 5 _ (List.mem_of_getElem? (i := 69) rfl)
set_option maxRecDepth 100000 in
theorem mc_288 : miC ((⟨"FishGrader$Items", "clarity", "(I)I"⟩, prog_3_method_9_code, 5, (some .int), 2, 0, 1, 1), 288) ∈ lw_tbl := tk_in 5 _ (List.mem_of_getElem? (i := 45) rfl)
set_option maxRecDepth 100000 in
theorem mc_289 : miC ((⟨"FishGrader$Items", "scoreFor", "(II)I"⟩, prog_3_method_6_code, 3, (some .int), 0, 0, 1, 2), 289) ∈ lw_tbl := tk_in 5 _ (List.mem_of_getElem? (i := 41) rfl)
set_option maxRecDepth 100000 in
theorem mc_290 : miC ((⟨"FishGrader$Tokens", "<init>", "([BI)V"⟩, prog_8_method_1_code, 3, none, 0, 2, 6, 2), 290) ∈ lw_tbl := tk_in 3 _ (List.mem_of_getElem? (i := 35) rfl)
set_option maxRecDepth 100000 in
theorem mc_291 : miC ((⟨"FishGrader$Parser", "<init>", "(LFishGrader$Tokens;LFishGrader$Setup;LFishGrader$State;)V"⟩, prog_5_method_1_code, 4, none, 0, 2, 3, 3), 291) ∈ lw_tbl := tk_in 3 _ (List.mem_of_getElem? (i := 64) rfl)
set_option maxRecDepth 100000 in
theorem mc_292 : miC ((⟨"FishGrader$Parser", "parseText", "()Z"⟩, prog_5_method_2_code, 3, (some .boolean), 9, 0, 3, 0), 292) ∈ lw_tbl := tk_in 3 _ (List.mem_of_getElem? (i := 99) rfl)
set_option maxRecDepth 100000 in
theorem mc_293 : miC ((⟨"FishGrader", "takeDraft", "()V"⟩, prog_1_method_5_code, 3, none, 0, 0, 7, 0), 293) ∈ lw_tbl := tk_in 5 _ (List.mem_of_getElem? (i := 57) rfl)
set_option maxRecDepth 100000 in
theorem mc_294 : miC ((⟨"FishGraderModel", "nextToken", "()V"⟩, prog_11_method_12_code, 1, none, 1, 0, 8, 0), 294) ∈ lw_tbl := tk_in 8 _ (List.mem_of_getElem? (i := 183) rfl)
set_option maxRecDepth 100000 in
theorem mc_295 : miC ((⟨"FishGraderModel", "readGrader", "()V"⟩, prog_11_method_17_code, 1, none, 5, 0, 8, 0), 295) ∈ lw_tbl := tk_in 8 _ (List.mem_of_getElem? (i := 193) rfl)
set_option maxRecDepth 100000 in
theorem mc_296 : miC ((⟨"FishGraderModel", "readLine", "()V"⟩, prog_11_method_25_code, 1, none, 6, 0, 8, 0), 296) ∈ lw_tbl := tk_in 8 _ (List.mem_of_getElem? (i := 224) rfl)
set_option maxRecDepth 100000 in
theorem mc_297 : miC ((⟨"FishGraderModel", "report", "(I)V"⟩, prog_11_method_11_code, 2, none, 0, 0, 8, 1), 297) ∈ lw_tbl := tk_in 8 _ (List.mem_of_getElem? (i := 208) rfl)
set_option maxRecDepth 100000 in
theorem mc_298 : miC ((⟨"java/lang/AbstractStringBuilder", "length", "()I"⟩, prog_13_method_6_code, 1, (some .int), 0, 0, 10, 0), 298) ∈ lw_tbl := tk_in 4 _ (List.mem_of_getElem? (i := 110) rfl)
set_option maxRecDepth 100000 in
theorem mc_299 : miC ((⟨"java/lang/AbstractStringBuilder", "charAt", "(I)C"⟩, prog_13_method_14_code, 5, (some .char), 0, 0, 10, 1), 299) ∈ lw_tbl := tk_in 8 _ (List.mem_of_getElem? (i := 48) rfl)
set_option maxRecDepth 100000 in
theorem mc_300 : miC ((⟨"java/lang/AbstractStringBuilder", "setLength", "(I)V"⟩, prog_13_method_13_code, 2, none, 3, 0, 10, 1), 300) ∈ lw_tbl := tk_in 7 _ (List.mem_of_getElem? (i := 197) rfl)
set_option maxRecDepth 100000 in
theorem mc_301 : miC ((⟨"java/lang/AbstractStringBuilder", "append", "(Ljava/lang/String;)Ljava/lang/AbstractStringBuilder;"⟩, prog_13_method_22_code, 3, (some (.object "java/lang/AbstractStringBuilder")), 3, 0, 10, 1), 301) ∈ lw_tbl := tk_in 4 _ (List.mem_of_getElem? (i := 173) rfl)
set_option maxRecDepth 100000 in
theorem mc_302 : miC ((⟨"java/lang/AbstractStringBuilder", "append", "(I)Ljava/lang/AbstractStringBuilder;"⟩, prog_13_method_32_code, 4, (some (.object "java/lang/AbstractStringBuilder")), 3, 0, 10, 1), 302) ∈ lw_tbl := tk_in 4 _ (List.mem_of_getElem? (i := 138) rfl)
set_option maxRecDepth 100000 in
theorem mc_303 : miC ((⟨"java/lang/AbstractStringBuilder", "append", "(C)Ljava/lang/AbstractStringBuilder;"⟩, prog_13_method_31_code, 2, (some (.object "java/lang/AbstractStringBuilder")), 3, 0, 10, 1), 303) ∈ lw_tbl := tk_in 4 _ (List.mem_of_getElem? (i := 18) rfl)
set_option maxRecDepth 100000 in
theorem mc_304 : miC ((⟨"java/lang/String", "coder", "()B"⟩, prog_28_method_152_code, 1, (some .byte), 0, 0, 9, 0), 304) ∈ lw_tbl := tk_in 3 _ (List.mem_of_getElem? (i := 141) rfl)
set_option maxRecDepth 100000 in
theorem mc_305 : miC ((⟨"java/lang/String", "isLatin1", "()Z"⟩, prog_28_method_154_code, 1, (some .boolean), 0, 0, 9, 0), 305) ∈ lw_tbl := tk_in 3 _ (List.mem_of_getElem? (i := 150) rfl)
set_option maxRecDepth 100000 in
theorem mc_306 : miC ((⟨"java/lang/StringLatin1", "charAt", "([BI)C"⟩, prog_31_method_2_code, 2, (some .char), 0, 1, 0, 2), 306) ∈ lw_tbl := tk_in 3 _ (List.mem_of_getElem? (i := 153) rfl)
set_option maxRecDepth 100000 in
theorem mc_307 : miC ((⟨"FishGrader$Items", "copyFrom", "(LFishGrader$Items;)V"⟩, prog_3_method_3_code, 2, none, 0, 0, 1, 1), 307) ∈ lw_tbl := tk_in 6 _ (List.mem_of_getElem? (i := 116) rfl)
set_option maxRecDepth 100000 in
theorem mc_308 : miC ((⟨"FishGrader$Boxes", "copyFrom", "(LFishGrader$Boxes;)V"⟩, prog_2_method_3_code, 2, none, 0, 0, 0, 1), 308) ∈ lw_tbl := tk_in 6 _ (List.mem_of_getElem? (i := 121) rfl)
set_option maxRecDepth 100000 in
theorem mc_309 : miC ((⟨"FishGrader", "forgetOldest", "()V"⟩, prog_1_method_71_code, 3, none, 0, 0, 7, 0), 309) ∈ lw_tbl := tk_in 7 _ (List.mem_of_getElem? (i := 77) rfl)
set_option maxRecDepth 100000 in
theorem mc_310 : miC ((⟨"FishGrader$Items", "favourite", "(I)I"⟩, prog_3_method_8_code, 4, (some .int), 1, 0, 1, 1), 310) ∈ lw_tbl := tk_in 5 _ (List.mem_of_getElem? (i := 37) rfl)
set_option maxRecDepth 100000 in
theorem mc_311 : miC ((⟨"FishGrader$Boxes", "addBox", "(IIII)I"⟩, prog_2_method_4_code, 6, (some .int), 0, 0, 0, 4), 311) ∈ lw_tbl := tk_in 6 _ (List.mem_of_getElem? (i := 177) rfl)
set_option maxRecDepth 100000 in
theorem mc_312 : miC ((⟨"FishGrader$Items", "moveToClosedBox", "(III)V"⟩, prog_3_method_12_code, 5, none, 1, 0, 1, 3), 312) ∈ lw_tbl := tk_in 6 _ (List.mem_of_getElem? (i := 182) rfl)
set_option maxRecDepth 100000 in
theorem mc_313 : miC ((⟨"FishGrader$State", "poolSetOf", "(I)I"⟩, prog_7_method_18_code, 4, (some .int), 0, 0, 5, 1), 313) ∈ lw_tbl := tk_in 7 _ (List.mem_of_getElem? (i := 26) rfl)
set_option maxRecDepth 100000 in
theorem mc_314 : miC ((⟨"FishGrader$State", "poolWeight", "(I)I"⟩, prog_7_method_19_code, 4, (some .int), 0, 0, 5, 1), 314) ∈ lw_tbl := tk_in 7 _ (List.mem_of_getElem? (i := 30) rfl)
set_option maxRecDepth 100000 in
theorem mc_315 : miC ((⟨"java/lang/Integer", "bitCount", "(I)I"⟩, prog_24_method_49_code, 1, (some .int), 0, 1, 0, 1), 315) ∈ lw_tbl := tk_in 7 _ (List.mem_of_getElem? (i := 33) rfl)
set_option maxRecDepth 100000 in
theorem mc_316 : miC ((⟨"FishGrader$Setup", "iceFor", "(I)I"⟩, prog_6_method_7_code, 2, (some .int), 0, 0, 4, 1), 316) ∈ lw_tbl := tk_in 6 _ (List.mem_of_getElem? (i := 139) rfl)
set_option maxRecDepth 100000 in
theorem mc_317 : miC ((⟨"FishGrader$Boxes", "excessFrom", "(I)I"⟩, prog_2_method_6_code, 4, (some .int), 1, 0, 0, 1), 317) ∈ lw_tbl := tk_in 6 _ (List.mem_of_getElem? (i := 201) rfl)
set_option maxRecDepth 100000 in
theorem mc_318 : miC ((⟨"FishGrader$Boxes", "isLate", "(III)Z"⟩, prog_2_method_11_code, 5, (some .boolean), 0, 0, 0, 3), 318) ∈ lw_tbl := tk_in 6 _ (List.mem_of_getElem? (i := 31) rfl)
set_option maxRecDepth 100000 in
theorem mc_319 : miC ((⟨"FishGrader$State", "iceBoxes", "(LFishGrader$Setup;)V"⟩, prog_7_method_6_code, 4, none, 1, 0, 5, 1), 319) ∈ lw_tbl := tk_in 6 _ (List.mem_of_getElem? (i := 135) rfl)
set_option maxRecDepth 100000 in
theorem mc_320 : miC ((⟨"FishGrader$State", "handleNext", "(LFishGrader$Setup;)V"⟩, prog_7_method_7_code, 6, none, 3, 0, 5, 1), 320) ∈ lw_tbl := tk_in 6 _ (List.mem_of_getElem? (i := 144) rfl)
set_option maxRecDepth 100000 in
theorem mc_321 : miC ((⟨"FishGraderModel", "placeFor", "([II)I"⟩, prog_11_method_40_code, 10, (some .int), 1, 0, 8, 2), 321) ∈ lw_tbl := tk_in 10 _ (List.mem_of_getElem? (i := 41) rfl)
set_option maxRecDepth 100000 in
theorem mc_322 : miC ((⟨"FishGrader$Boxes", "countWorse", "(I)I"⟩, prog_2_method_10_code, 4, (some .int), 1, 0, 0, 1), 322) ∈ lw_tbl := tk_in 5 _ (List.mem_of_getElem? (i := 227) rfl)
set_option maxRecDepth 100000 in
theorem mc_323 : miC ((⟨"FishGrader$Items", "isInOpenBox", "(III)Z"⟩, prog_3_method_10_code, 4, (some .boolean), 0, 0, 1, 3), 323) ∈ lw_tbl := tk_in 5 _ (List.mem_of_getElem? (i := 160) rfl)
set_option maxRecDepth 100000 in
theorem mc_324 : miC ((⟨"FishGrader$Setup", "clear", "()V"⟩, prog_6_method_2_code, 1, none, 0, 0, 4, 0), 324) ∈ lw_tbl := tk_in 3 _ (List.mem_of_getElem? (i := 103) rfl)
set_option maxRecDepth 100000 in
theorem mc_325 : miC ((⟨"FishGrader$State", "clear", "()V"⟩, prog_7_method_2_code, 2, none, 1, 0, 5, 0), 325) ∈ lw_tbl := tk_in 3 _ (List.mem_of_getElem? (i := 107) rfl)
set_option maxRecDepth 100000 in
theorem mc_326 : miC ((⟨"FishGrader$Tokens", "step", "()V"⟩, prog_8_method_2_code, 1, none, 0, 0, 6, 0), 326) ∈ lw_tbl := tk_in 3 _ (List.mem_of_getElem? (i := 119) rfl)
set_option maxRecDepth 100000 in
theorem mc_327 : miC ((⟨"FishGrader$Parser", "graderLine", "()Z"⟩, prog_5_method_4_code, 1, (some .boolean), 5, 0, 3, 0), 327) ∈ lw_tbl := tk_in 3 _ (List.mem_of_getElem? (i := 123) rfl)
set_option maxRecDepth 100000 in
theorem mc_328 : miC ((⟨"FishGrader$Parser", "line", "()Z"⟩, prog_5_method_5_code, 1, (some .boolean), 8, 0, 3, 0), 328) ∈ lw_tbl := tk_in 3 _ (List.mem_of_getElem? (i := 204) rfl)
set_option maxRecDepth 100000 in
theorem mc_329 : miC ((⟨"FishGrader$Parser", "textEnd", "()Z"⟩, prog_5_method_3_code, 1, (some .boolean), 1, 0, 3, 0), 329) ∈ lw_tbl := tk_in 5 _ (List.mem_of_getElem? (i := 50) rfl)
set_option maxRecDepth 100000 in
theorem mc_330 : miC ((⟨"FishGraderModel", "byteAt", "(I)I"⟩, prog_11_method_10_code, 2, (some .int), 0, 0, 8, 1), 330) ∈ lw_tbl := tk_in 8 _ (List.mem_of_getElem? (i := 187) rfl)
set_option maxRecDepth 100000 in
theorem mc_331 : miC ((⟨"FishGraderModel", "keyword", "(Ljava/lang/String;)V"⟩, prog_11_method_14_code, 2, none, 3, 0, 8, 1), 331) ∈ lw_tbl := tk_in 8 _ (List.mem_of_getElem? (i := 198) rfl)
set_option maxRecDepth 100000 in
theorem mc_332 : miC ((⟨"FishGraderModel", "measure", "(Ljava/lang/String;II)I"⟩, prog_11_method_16_code, 4, (some .int), 4, 0, 8, 3), 332) ∈ lw_tbl := tk_in 8 _ (List.mem_of_getElem? (i := 213) rfl)
set_option maxRecDepth 100000 in
theorem mc_333 : miC ((⟨"FishGraderModel", "isIn", "(Ljava/lang/String;)Z"⟩, prog_11_method_13_code, 5, (some .boolean), 2, 0, 8, 1), 333) ∈ lw_tbl := tk_in 8 _ (List.mem_of_getElem? (i := 202) rfl)
set_option maxRecDepth 100000 in
theorem mc_334 : miC ((⟨"FishGraderModel", "readIce", "()V"⟩, prog_11_method_18_code, 1, none, 3, 0, 8, 0), 334) ∈ lw_tbl := tk_in 8 _ (List.mem_of_getElem? (i := 229) rfl)
set_option maxRecDepth 100000 in
theorem mc_335 : miC ((⟨"FishGraderModel", "readStop", "()V"⟩, prog_11_method_19_code, 4, none, 3, 0, 8, 0), 335) ∈ lw_tbl := tk_in 8 _ (List.mem_of_getElem? (i := 235) rfl)
set_option maxRecDepth 100000 in
theorem mc_336 : miC ((⟨"FishGraderModel", "readSpecies", "()V"⟩, prog_11_method_22_code, 2, none, 5, 0, 8, 0), 336) ∈ lw_tbl := tk_in 9 _ (List.mem_of_getElem? (i := 0) rfl)
set_option maxRecDepth 100000 in
theorem mc_337 : miC ((⟨"FishGraderModel", "readItem", "()V"⟩, prog_11_method_24_code, 9, none, 4, 0, 8, 0), 337) ∈ lw_tbl := tk_in 9 _ (List.mem_of_getElem? (i := 19) rfl)
set_option maxRecDepth 100000 in
theorem mc_338 : miC ((⟨"java/lang/AbstractStringBuilder", "ensureCapacityInternal", "(I)V"⟩, prog_13_method_9_code, 3, none, 2, 0, 10, 1), 338) ∈ lw_tbl := tk_in 4 _ (List.mem_of_getElem? (i := 22) rfl)
set_option maxRecDepth 100000 in
theorem mc_339 : miC ((⟨"java/lang/AbstractStringBuilder", "isLatin1", "()Z"⟩, prog_13_method_68_code, 1, (some .boolean), 0, 0, 10, 0), 339) ∈ lw_tbl := tk_in 4 _ (List.mem_of_getElem? (i := 56) rfl)
set_option maxRecDepth 100000 in
theorem mc_340 : miC ((⟨"java/lang/AbstractStringBuilder", "putStringAt", "(ILjava/lang/String;)V"⟩, prog_13_method_73_code, 3, none, 2, 0, 10, 2), 340) ∈ lw_tbl := tk_in 4 _ (List.mem_of_getElem? (i := 185) rfl)
set_option maxRecDepth 100000 in
theorem mc_341 : miC ((⟨"java/lang/Integer", "stringSize", "(I)I"⟩, prog_24_method_13_code, 4, (some .int), 0, 1, 0, 1), 341) ∈ lw_tbl := tk_in 4 _ (List.mem_of_getElem? (i := 141) rfl)
set_option maxRecDepth 100000 in
theorem mc_342 : miC ((⟨"java/lang/Integer", "getChars", "(II[B)I"⟩, prog_24_method_12_code, 7, (some .int), 0, 1, 0, 3), 342) ∈ lw_tbl := tk_in 4 _ (List.mem_of_getElem? (i := 144) rfl)
set_option maxRecDepth 100000 in
theorem mc_343 : miC ((⟨"java/lang/StringLatin1", "canEncode", "(C)Z"⟩, prog_31_method_3_code, 1, (some .boolean), 0, 1, 0, 1), 343) ∈ lw_tbl := tk_in 4 _ (List.mem_of_getElem? (i := 59) rfl)
set_option maxRecDepth 100000 in
theorem mc_344 : miC ((⟨"FishGrader$State", "choosePlace", "(LFishGrader$Setup;II)I"⟩, prog_7_method_9_code, 7, (some .int), 2, 0, 5, 3), 344) ∈ lw_tbl := tk_in 6 _ (List.mem_of_getElem? (i := 148) rfl)
set_option maxRecDepth 100000 in
theorem mc_345 : miC ((⟨"FishGrader$State", "putIntoPool", "(I)V"⟩, prog_7_method_8_code, 2, none, 0, 0, 5, 1), 345) ∈ lw_tbl := tk_in 6 _ (List.mem_of_getElem? (i := 165) rfl)
set_option maxRecDepth 100000 in
theorem mc_346 : miC ((⟨"FishGraderModel", "isChosen", "(III)Z"⟩, prog_11_method_41_code, 3, (some .boolean), 0, 1, 8, 3), 346) ∈ lw_tbl := tk_in 10 _ (List.mem_of_getElem? (i := 44) rfl)
set_option maxRecDepth 100000 in
theorem mc_347 : miC ((⟨"FishGrader$Items", "clear", "()V"⟩, prog_3_method_2_code, 1, none, 0, 0, 1, 0), 347) ∈ lw_tbl := tk_in 3 _ (List.mem_of_getElem? (i := 111) rfl)
set_option maxRecDepth 100000 in
theorem mc_348 : miC ((⟨"FishGrader$Boxes", "clear", "()V"⟩, prog_2_method_2_code, 1, none, 0, 0, 0, 0), 348) ∈ lw_tbl := tk_in 3 _ (List.mem_of_getElem? (i := 115) rfl)
set_option maxRecDepth 100000 in
theorem mc_349 : miC ((⟨"FishGrader$Parser", "keyword", "(LFishGrader$Word;)Z"⟩, prog_5_method_16_code, 2, (some .boolean), 3, 0, 3, 1), 349) ∈ lw_tbl := tk_in 3 _ (List.mem_of_getElem? (i := 129) rfl)
set_option maxRecDepth 100000 in
theorem mc_350 : miC ((⟨"FishGrader$Parser", "named", "(LFishGrader$Word;II)Z"⟩, prog_5_method_15_code, 4, (some .boolean), 4, 0, 3, 3), 350) ∈ lw_tbl := tk_in 3 _ (List.mem_of_getElem? (i := 190) rfl)
set_option maxRecDepth 100000 in
theorem mc_351 : miC ((⟨"FishGrader$Parser", "isAt", "(LFishGrader$Word;)Z"⟩, prog_5_method_12_code, 2, (some .boolean), 3, 0, 3, 1), 351) ∈ lw_tbl := tk_in 3 _ (List.mem_of_getElem? (i := 210) rfl)
set_option maxRecDepth 100000 in
theorem mc_352 : miC ((⟨"FishGrader$Parser", "iceLine", "()Z"⟩, prog_5_method_6_code, 1, (some .boolean), 2, 0, 3, 0), 352) ∈ lw_tbl := tk_in 3 _ (List.mem_of_getElem? (i := 214) rfl)
set_option maxRecDepth 100000 in
theorem mc_353 : miC ((⟨"FishGrader$Parser", "stopLine", "()Z"⟩, prog_5_method_7_code, 2, (some .boolean), 2, 0, 3, 0), 353) ∈ lw_tbl := tk_in 3 _ (List.mem_of_getElem? (i := 221) rfl)
set_option maxRecDepth 100000 in
theorem mc_354 : miC ((⟨"FishGrader$Parser", "speciesLine", "()Z"⟩, prog_5_method_8_code, 3, (some .boolean), 7, 0, 3, 0), 354) ∈ lw_tbl := tk_in 3 _ (List.mem_of_getElem? (i := 231) rfl)
set_option maxRecDepth 100000 in
theorem mc_355 : miC ((⟨"FishGrader$Parser", "itemLine", "()Z"⟩, prog_5_method_9_code, 4, (some .boolean), 5, 0, 3, 0), 355) ∈ lw_tbl := tk_in 4 _ (List.mem_of_getElem? (i := 239) rfl)
set_option maxRecDepth 100000 in
theorem mc_356 : miC ((⟨"FishGrader$Parser", "fail", "(I)Z"⟩, prog_5_method_18_code, 2, (some .boolean), 0, 0, 3, 1), 356) ∈ lw_tbl := tk_in 3 _ (List.mem_of_getElem? (i := 184) rfl)
set_option maxRecDepth 100000 in
theorem mc_357 : miC ((⟨"FishGraderModel", "number", "(II)I"⟩, prog_11_method_15_code, 4, (some .int), 2, 0, 8, 2), 357) ∈ lw_tbl := tk_in 8 _ (List.mem_of_getElem? (i := 217) rfl)
set_option maxRecDepth 100000 in
theorem mc_358 : miC ((⟨"FishGraderModel", "isName", "()Z"⟩, prog_11_method_20_code, 1, (some .boolean), 3, 0, 8, 0), 358) ∈ lw_tbl := tk_in 9 _ (List.mem_of_getElem? (i := 4) rfl)
set_option maxRecDepth 100000 in
theorem mc_359 : miC ((⟨"FishGraderModel", "kindHere", "()I"⟩, prog_11_method_21_code, 2, (some .int), 0, 0, 8, 0), 359) ∈ lw_tbl := tk_in 9 _ (List.mem_of_getElem? (i := 9) rfl)
set_option maxRecDepth 100000 in
theorem mc_360 : miC ((⟨"java/lang/AbstractStringBuilder", "newCapacity", "(I)I"⟩, prog_13_method_10_code, 6, (some .int), 1, 0, 10, 1), 360) ∈ lw_tbl := tk_in 4 _ (List.mem_of_getElem? (i := 26) rfl)
set_option maxRecDepth 100000 in
theorem mc_361 : miC ((⟨"java/util/Arrays", "copyOf", "([BI)[B"⟩, prog_37_method_121_code, 3, (some (.array .byte)), 0, 1, 0, 2), 361) ∈ lw_tbl := tk_in 4 _ (List.mem_of_getElem? (i := 40) rfl)
set_option maxRecDepth 100000 in
theorem mc_362 : miC ((⟨"java/lang/AbstractStringBuilder", "inflateIfNeededFor", "(Ljava/lang/String;)V"⟩, prog_13_method_71_code, 2, none, 1, 0, 10, 1), 362) ∈ lw_tbl := tk_in 4 _ (List.mem_of_getElem? (i := 189) rfl)
set_option maxRecDepth 100000 in
theorem mc_363 : miC ((⟨"java/lang/String", "getBytes", "([BIB)V"⟩, prog_28_method_147_code, 4, none, 1, 0, 9, 3), 363) ∈ lw_tbl := tk_in 4 _ (List.mem_of_getElem? (i := 194) rfl)
set_option maxRecDepth 100000 in
theorem mc_364 : miC ((⟨"FishGrader$State", "smallestSum", "(IIII)I"⟩, prog_7_method_10_code, 9, (some .int), 0, 0, 5, 4), 364) ∈ lw_tbl := tk_in 6 _ (List.mem_of_getElem? (i := 152) rfl)
set_option maxRecDepth 100000 in
theorem mc_365 : miC ((⟨"FishGrader$State", "placeByRule", "(III)I"⟩, prog_7_method_11_code, 8, (some .int), 1, 0, 5, 3), 365) ∈ lw_tbl := tk_in 6 _ (List.mem_of_getElem? (i := 156) rfl)
set_option maxRecDepth 100000 in
theorem mc_366 : miC ((⟨"FishGrader$Tokens", "isText", "(Ljava/lang/String;)Z"⟩, prog_8_method_3_code, 3, (some .boolean), 2, 0, 6, 1), 366) ∈ lw_tbl := tk_in 3 _ (List.mem_of_getElem? (i := 133) rfl)
set_option maxRecDepth 100000 in
theorem mc_367 : miC ((⟨"FishGrader$Parser", "number", "(II)Z"⟩, prog_5_method_17_code, 3, (some .boolean), 1, 0, 3, 2), 367) ∈ lw_tbl := tk_in 3 _ (List.mem_of_getElem? (i := 194) rfl)
set_option maxRecDepth 100000 in
theorem mc_368 : miC ((⟨"FishGrader$Setup", "addStop", "(II)V"⟩, prog_6_method_4_code, 3, none, 0, 0, 4, 2), 368) ∈ lw_tbl := tk_in 3 _ (List.mem_of_getElem? (i := 225) rfl)
set_option maxRecDepth 100000 in
theorem mc_369 : miC ((⟨"FishGrader$Parser", "isName", "()Z"⟩, prog_5_method_13_code, 5, (some .boolean), 3, 0, 3, 0), 369) ∈ lw_tbl := tk_in 3 _ (List.mem_of_getElem? (i := 235) rfl)
set_option maxRecDepth 100000 in
theorem mc_370 : miC ((⟨"FishGrader$Parser", "namedSpecies", "()I"⟩, prog_5_method_14_code, 2, (some .int), 3, 0, 3, 0), 370) ∈ lw_tbl := tk_in 4 _ (List.mem_of_getElem? (i := 1) rfl)
set_option maxRecDepth 100000 in
theorem mc_371 : miC ((⟨"FishGrader$Tokens", "copyText", "()Ljava/lang/String;"⟩, prog_8_method_4_code, 3, (some (.object "java/lang/String")), 6, 0, 6, 0), 371) ∈ lw_tbl := tk_in 4 _ (List.mem_of_getElem? (i := 9) rfl)
set_option maxRecDepth 100000 in
theorem mc_372 : miC ((⟨"FishGrader$Parser", "sample", "()Z"⟩, prog_5_method_10_code, 1, (some .boolean), 2, 0, 3, 0), 372) ∈ lw_tbl := tk_in 5 _ (List.mem_of_getElem? (i := 3) rfl)
set_option maxRecDepth 100000 in
theorem mc_373 : miC ((⟨"FishGrader$Parser", "vote", "(I)Z"⟩, prog_5_method_11_code, 3, (some .boolean), 4, 0, 3, 1), 373) ∈ lw_tbl := tk_in 5 _ (List.mem_of_getElem? (i := 25) rfl)
set_option maxRecDepth 100000 in
theorem mc_374 : miC ((⟨"jdk/internal/util/ArraysSupport", "newLength", "(III)I"⟩, prog_39_method_27_code, 4, (some .int), 0, 1, 0, 3), 374) ∈ lw_tbl := tk_in 4 _ (List.mem_of_getElem? (i := 29) rfl)
set_option maxRecDepth 100000 in
theorem mc_375 : miC ((⟨"FishGrader$State", "isPreferred", "(II)Z"⟩, prog_7_method_12_code, 3, (some .boolean), 0, 0, 5, 2), 375) ∈ lw_tbl := tk_in 6 _ (List.mem_of_getElem? (i := 160) rfl)
set_option maxRecDepth 100000 in
theorem mc_376 : miC ((⟨"java/lang/StringBuilder", "toString", "()Ljava/lang/String;"⟩, prog_29_method_42_code, 1, (some (.object "java/lang/String")), 5, 0, 10, 0), 376) ∈ lw_tbl := tk_in 4 _ (List.mem_of_getElem? (i := 88) rfl)
set_option maxRecDepth 100000 in
theorem mc_377 : miC ((⟨"java/lang/String", "<init>", "(Ljava/lang/StringBuilder;)V"⟩, prog_28_method_53_code, 2, none, 4, 2, 9, 1), 377) ∈ lw_tbl := tk_in 4 _ (List.mem_of_getElem? (i := 93) rfl)
set_option maxRecDepth 100000 in
theorem mc_378 : miC ((⟨"java/lang/String", "<init>", "(Ljava/lang/AbstractStringBuilder;Ljava/lang/Void;)V"⟩, prog_28_method_150_code, 5, none, 3, 2, 9, 2), 378) ∈ lw_tbl := tk_in 4 _ (List.mem_of_getElem? (i := 96) rfl)
set_option maxRecDepth 100000 in
theorem mc_379 : miC ((⟨"java/lang/AbstractStringBuilder", "getValue", "()[B"⟩, prog_13_method_64_code, 1, (some (.array .byte)), 0, 0, 10, 0), 379) ∈ lw_tbl := tk_in 4 _ (List.mem_of_getElem? (i := 102) rfl)
set_option maxRecDepth 100000 in
theorem mc_380 : miC ((⟨"java/util/Arrays", "copyOfRange", "([BII)[B"⟩, prog_37_method_132_code, 3, (some (.array .byte)), 2, 1, 0, 3), 380) ∈ lw_tbl := tk_in 4 _ (List.mem_of_getElem? (i := 114) rfl)
set_option maxRecDepth 100000 in
theorem mc_381 : miC ((⟨"java/util/Arrays", "copyOfRangeByte", "([BII)[B"⟩, prog_37_method_133_code, 5, (some (.array .byte)), 1, 1, 0, 3), 381) ∈ lw_tbl := tk_in 4 _ (List.mem_of_getElem? (i := 117) rfl)
set_option maxRecDepth 100000 in
theorem mc_382 : miC ((⟨"java/util/Arrays", "checkLength", "(II)V"⟩, prog_37_method_131_code, 2, none, 0, 1, 0, 2), 382) ∈ lw_tbl := tk_in 4 _ (List.mem_of_getElem? (i := 120) rfl)
theorem MIc_0 : ∀ q ∈ MIq_0, q.2 ≠ 0 → miC q ∈ lw_tbl := List.forall_mem_cons.mpr ⟨fun h => absurd rfl h, List.forall_mem_cons.mpr ⟨fun _ => mc_1, List.forall_mem_cons.mpr ⟨fun _ => mc_2, List.forall_mem_cons.mpr ⟨fun _ => mc_3, List.forall_mem_cons.mpr ⟨fun _ => mc_4, List.forall_mem_cons.mpr ⟨fun _ => mc_5, List.forall_mem_cons.mpr ⟨fun _ => mc_6, List.forall_mem_cons.mpr ⟨fun _ => mc_7, List.forall_mem_cons.mpr ⟨fun _ => mc_8, List.forall_mem_cons.mpr ⟨fun _ => mc_9, List.forall_mem_cons.mpr ⟨fun _ => mc_10, List.forall_mem_cons.mpr ⟨fun _ => mc_11, List.forall_mem_cons.mpr ⟨fun _ => mc_12, List.forall_mem_cons.mpr ⟨fun _ => mc_13, List.forall_mem_cons.mpr ⟨fun _ => mc_14, List.forall_mem_cons.mpr ⟨fun _ => mc_15, List.forall_mem_cons.mpr ⟨fun _ => mc_16, List.forall_mem_cons.mpr ⟨fun _ => mc_17, List.forall_mem_cons.mpr ⟨fun _ => mc_18, List.forall_mem_cons.mpr ⟨fun _ => mc_19, fun _ h => absurd h List.not_mem_nil⟩⟩⟩⟩⟩⟩⟩⟩⟩⟩⟩⟩⟩⟩⟩⟩⟩⟩⟩⟩
theorem MIc_1 : ∀ q ∈ MIq_1, q.2 ≠ 0 → miC q ∈ lw_tbl := List.forall_mem_cons.mpr ⟨fun _ => mc_20, List.forall_mem_cons.mpr ⟨fun _ => mc_21, List.forall_mem_cons.mpr ⟨fun _ => mc_22, List.forall_mem_cons.mpr ⟨fun _ => mc_23, List.forall_mem_cons.mpr ⟨fun _ => mc_24, List.forall_mem_cons.mpr ⟨fun _ => mc_25, List.forall_mem_cons.mpr ⟨fun _ => mc_26, List.forall_mem_cons.mpr ⟨fun _ => mc_27, List.forall_mem_cons.mpr ⟨fun _ => mc_28, List.forall_mem_cons.mpr ⟨fun _ => mc_29, List.forall_mem_cons.mpr ⟨fun _ => mc_30, List.forall_mem_cons.mpr ⟨fun _ => mc_31, List.forall_mem_cons.mpr ⟨fun _ => mc_32, List.forall_mem_cons.mpr ⟨fun _ => mc_33, List.forall_mem_cons.mpr ⟨fun _ => mc_34, List.forall_mem_cons.mpr ⟨fun _ => mc_35, List.forall_mem_cons.mpr ⟨fun _ => mc_36, List.forall_mem_cons.mpr ⟨fun _ => mc_37, List.forall_mem_cons.mpr ⟨fun _ => mc_38, List.forall_mem_cons.mpr ⟨fun _ => mc_39, fun _ h => absurd h List.not_mem_nil⟩⟩⟩⟩⟩⟩⟩⟩⟩⟩⟩⟩⟩⟩⟩⟩⟩⟩⟩⟩
theorem MIc_2 : ∀ q ∈ MIq_2, q.2 ≠ 0 → miC q ∈ lw_tbl := List.forall_mem_cons.mpr ⟨fun _ => mc_40, List.forall_mem_cons.mpr ⟨fun _ => mc_41, List.forall_mem_cons.mpr ⟨fun _ => mc_42, List.forall_mem_cons.mpr ⟨fun _ => mc_43, List.forall_mem_cons.mpr ⟨fun _ => mc_44, List.forall_mem_cons.mpr ⟨fun _ => mc_45, List.forall_mem_cons.mpr ⟨fun _ => mc_46, List.forall_mem_cons.mpr ⟨fun _ => mc_47, List.forall_mem_cons.mpr ⟨fun _ => mc_48, List.forall_mem_cons.mpr ⟨fun _ => mc_49, List.forall_mem_cons.mpr ⟨fun _ => mc_50, List.forall_mem_cons.mpr ⟨fun _ => mc_51, List.forall_mem_cons.mpr ⟨fun _ => mc_52, List.forall_mem_cons.mpr ⟨fun _ => mc_53, List.forall_mem_cons.mpr ⟨fun _ => mc_54, List.forall_mem_cons.mpr ⟨fun _ => mc_55, List.forall_mem_cons.mpr ⟨fun _ => mc_56, List.forall_mem_cons.mpr ⟨fun _ => mc_57, List.forall_mem_cons.mpr ⟨fun _ => mc_58, List.forall_mem_cons.mpr ⟨fun _ => mc_59, fun _ h => absurd h List.not_mem_nil⟩⟩⟩⟩⟩⟩⟩⟩⟩⟩⟩⟩⟩⟩⟩⟩⟩⟩⟩⟩
theorem MIc_3 : ∀ q ∈ MIq_3, q.2 ≠ 0 → miC q ∈ lw_tbl := List.forall_mem_cons.mpr ⟨fun _ => mc_60, List.forall_mem_cons.mpr ⟨fun _ => mc_61, List.forall_mem_cons.mpr ⟨fun _ => mc_62, List.forall_mem_cons.mpr ⟨fun _ => mc_63, List.forall_mem_cons.mpr ⟨fun _ => mc_64, List.forall_mem_cons.mpr ⟨fun _ => mc_65, List.forall_mem_cons.mpr ⟨fun _ => mc_66, List.forall_mem_cons.mpr ⟨fun _ => mc_67, List.forall_mem_cons.mpr ⟨fun _ => mc_68, List.forall_mem_cons.mpr ⟨fun _ => mc_69, List.forall_mem_cons.mpr ⟨fun _ => mc_70, List.forall_mem_cons.mpr ⟨fun _ => mc_71, List.forall_mem_cons.mpr ⟨fun _ => mc_72, List.forall_mem_cons.mpr ⟨fun _ => mc_73, List.forall_mem_cons.mpr ⟨fun _ => mc_74, List.forall_mem_cons.mpr ⟨fun _ => mc_75, List.forall_mem_cons.mpr ⟨fun _ => mc_76, List.forall_mem_cons.mpr ⟨fun _ => mc_77, List.forall_mem_cons.mpr ⟨fun _ => mc_78, List.forall_mem_cons.mpr ⟨fun _ => mc_79, fun _ h => absurd h List.not_mem_nil⟩⟩⟩⟩⟩⟩⟩⟩⟩⟩⟩⟩⟩⟩⟩⟩⟩⟩⟩⟩
theorem MIc_4 : ∀ q ∈ MIq_4, q.2 ≠ 0 → miC q ∈ lw_tbl := List.forall_mem_cons.mpr ⟨fun _ => mc_80, List.forall_mem_cons.mpr ⟨fun _ => mc_81, List.forall_mem_cons.mpr ⟨fun _ => mc_82, List.forall_mem_cons.mpr ⟨fun _ => mc_83, List.forall_mem_cons.mpr ⟨fun _ => mc_84, List.forall_mem_cons.mpr ⟨fun _ => mc_85, List.forall_mem_cons.mpr ⟨fun _ => mc_86, List.forall_mem_cons.mpr ⟨fun _ => mc_87, List.forall_mem_cons.mpr ⟨fun _ => mc_88, List.forall_mem_cons.mpr ⟨fun _ => mc_89, List.forall_mem_cons.mpr ⟨fun _ => mc_90, List.forall_mem_cons.mpr ⟨fun _ => mc_91, List.forall_mem_cons.mpr ⟨fun _ => mc_92, List.forall_mem_cons.mpr ⟨fun _ => mc_93, List.forall_mem_cons.mpr ⟨fun _ => mc_94, List.forall_mem_cons.mpr ⟨fun _ => mc_95, List.forall_mem_cons.mpr ⟨fun _ => mc_96, List.forall_mem_cons.mpr ⟨fun _ => mc_97, List.forall_mem_cons.mpr ⟨fun _ => mc_98, List.forall_mem_cons.mpr ⟨fun _ => mc_99, fun _ h => absurd h List.not_mem_nil⟩⟩⟩⟩⟩⟩⟩⟩⟩⟩⟩⟩⟩⟩⟩⟩⟩⟩⟩⟩
theorem MIc_5 : ∀ q ∈ MIq_5, q.2 ≠ 0 → miC q ∈ lw_tbl := List.forall_mem_cons.mpr ⟨fun _ => mc_100, List.forall_mem_cons.mpr ⟨fun _ => mc_101, List.forall_mem_cons.mpr ⟨fun _ => mc_102, List.forall_mem_cons.mpr ⟨fun _ => mc_103, List.forall_mem_cons.mpr ⟨fun _ => mc_104, List.forall_mem_cons.mpr ⟨fun _ => mc_105, List.forall_mem_cons.mpr ⟨fun _ => mc_106, List.forall_mem_cons.mpr ⟨fun _ => mc_107, List.forall_mem_cons.mpr ⟨fun _ => mc_108, List.forall_mem_cons.mpr ⟨fun _ => mc_109, List.forall_mem_cons.mpr ⟨fun _ => mc_110, List.forall_mem_cons.mpr ⟨fun _ => mc_111, List.forall_mem_cons.mpr ⟨fun _ => mc_112, List.forall_mem_cons.mpr ⟨fun _ => mc_113, List.forall_mem_cons.mpr ⟨fun _ => mc_114, List.forall_mem_cons.mpr ⟨fun _ => mc_115, List.forall_mem_cons.mpr ⟨fun _ => mc_116, List.forall_mem_cons.mpr ⟨fun _ => mc_117, List.forall_mem_cons.mpr ⟨fun _ => mc_118, List.forall_mem_cons.mpr ⟨fun _ => mc_119, fun _ h => absurd h List.not_mem_nil⟩⟩⟩⟩⟩⟩⟩⟩⟩⟩⟩⟩⟩⟩⟩⟩⟩⟩⟩⟩
theorem MIc_6 : ∀ q ∈ MIq_6, q.2 ≠ 0 → miC q ∈ lw_tbl := List.forall_mem_cons.mpr ⟨fun _ => mc_120, List.forall_mem_cons.mpr ⟨fun _ => mc_121, List.forall_mem_cons.mpr ⟨fun _ => mc_122, List.forall_mem_cons.mpr ⟨fun _ => mc_123, List.forall_mem_cons.mpr ⟨fun _ => mc_124, List.forall_mem_cons.mpr ⟨fun _ => mc_125, List.forall_mem_cons.mpr ⟨fun _ => mc_126, List.forall_mem_cons.mpr ⟨fun _ => mc_127, List.forall_mem_cons.mpr ⟨fun _ => mc_128, List.forall_mem_cons.mpr ⟨fun _ => mc_129, List.forall_mem_cons.mpr ⟨fun _ => mc_130, List.forall_mem_cons.mpr ⟨fun _ => mc_131, List.forall_mem_cons.mpr ⟨fun _ => mc_132, List.forall_mem_cons.mpr ⟨fun _ => mc_133, List.forall_mem_cons.mpr ⟨fun _ => mc_134, List.forall_mem_cons.mpr ⟨fun _ => mc_135, List.forall_mem_cons.mpr ⟨fun _ => mc_136, List.forall_mem_cons.mpr ⟨fun _ => mc_137, List.forall_mem_cons.mpr ⟨fun _ => mc_138, List.forall_mem_cons.mpr ⟨fun _ => mc_139, fun _ h => absurd h List.not_mem_nil⟩⟩⟩⟩⟩⟩⟩⟩⟩⟩⟩⟩⟩⟩⟩⟩⟩⟩⟩⟩
theorem MIc_7 : ∀ q ∈ MIq_7, q.2 ≠ 0 → miC q ∈ lw_tbl := List.forall_mem_cons.mpr ⟨fun _ => mc_140, List.forall_mem_cons.mpr ⟨fun _ => mc_141, List.forall_mem_cons.mpr ⟨fun _ => mc_142, List.forall_mem_cons.mpr ⟨fun _ => mc_143, List.forall_mem_cons.mpr ⟨fun _ => mc_144, List.forall_mem_cons.mpr ⟨fun _ => mc_145, List.forall_mem_cons.mpr ⟨fun _ => mc_146, List.forall_mem_cons.mpr ⟨fun _ => mc_147, List.forall_mem_cons.mpr ⟨fun _ => mc_148, List.forall_mem_cons.mpr ⟨fun _ => mc_149, List.forall_mem_cons.mpr ⟨fun _ => mc_150, List.forall_mem_cons.mpr ⟨fun _ => mc_151, List.forall_mem_cons.mpr ⟨fun _ => mc_152, List.forall_mem_cons.mpr ⟨fun _ => mc_153, List.forall_mem_cons.mpr ⟨fun _ => mc_154, List.forall_mem_cons.mpr ⟨fun _ => mc_155, List.forall_mem_cons.mpr ⟨fun _ => mc_156, List.forall_mem_cons.mpr ⟨fun _ => mc_157, List.forall_mem_cons.mpr ⟨fun _ => mc_158, List.forall_mem_cons.mpr ⟨fun _ => mc_159, fun _ h => absurd h List.not_mem_nil⟩⟩⟩⟩⟩⟩⟩⟩⟩⟩⟩⟩⟩⟩⟩⟩⟩⟩⟩⟩
theorem MIc_8 : ∀ q ∈ MIq_8, q.2 ≠ 0 → miC q ∈ lw_tbl := List.forall_mem_cons.mpr ⟨fun _ => mc_160, List.forall_mem_cons.mpr ⟨fun _ => mc_161, List.forall_mem_cons.mpr ⟨fun _ => mc_162, List.forall_mem_cons.mpr ⟨fun _ => mc_163, List.forall_mem_cons.mpr ⟨fun _ => mc_164, List.forall_mem_cons.mpr ⟨fun _ => mc_165, List.forall_mem_cons.mpr ⟨fun _ => mc_166, List.forall_mem_cons.mpr ⟨fun _ => mc_167, List.forall_mem_cons.mpr ⟨fun _ => mc_168, List.forall_mem_cons.mpr ⟨fun _ => mc_169, List.forall_mem_cons.mpr ⟨fun _ => mc_170, List.forall_mem_cons.mpr ⟨fun _ => mc_171, List.forall_mem_cons.mpr ⟨fun _ => mc_172, List.forall_mem_cons.mpr ⟨fun _ => mc_173, List.forall_mem_cons.mpr ⟨fun _ => mc_174, List.forall_mem_cons.mpr ⟨fun _ => mc_175, List.forall_mem_cons.mpr ⟨fun _ => mc_176, List.forall_mem_cons.mpr ⟨fun _ => mc_177, List.forall_mem_cons.mpr ⟨fun _ => mc_178, List.forall_mem_cons.mpr ⟨fun _ => mc_179, fun _ h => absurd h List.not_mem_nil⟩⟩⟩⟩⟩⟩⟩⟩⟩⟩⟩⟩⟩⟩⟩⟩⟩⟩⟩⟩
theorem MIc_9 : ∀ q ∈ MIq_9, q.2 ≠ 0 → miC q ∈ lw_tbl := List.forall_mem_cons.mpr ⟨fun _ => mc_180, List.forall_mem_cons.mpr ⟨fun _ => mc_181, List.forall_mem_cons.mpr ⟨fun _ => mc_182, List.forall_mem_cons.mpr ⟨fun _ => mc_183, List.forall_mem_cons.mpr ⟨fun _ => mc_184, List.forall_mem_cons.mpr ⟨fun _ => mc_185, List.forall_mem_cons.mpr ⟨fun _ => mc_186, List.forall_mem_cons.mpr ⟨fun _ => mc_187, List.forall_mem_cons.mpr ⟨fun _ => mc_188, List.forall_mem_cons.mpr ⟨fun _ => mc_189, List.forall_mem_cons.mpr ⟨fun _ => mc_190, List.forall_mem_cons.mpr ⟨fun _ => mc_191, List.forall_mem_cons.mpr ⟨fun _ => mc_192, List.forall_mem_cons.mpr ⟨fun _ => mc_193, List.forall_mem_cons.mpr ⟨fun _ => mc_194, List.forall_mem_cons.mpr ⟨fun _ => mc_195, List.forall_mem_cons.mpr ⟨fun _ => mc_196, List.forall_mem_cons.mpr ⟨fun _ => mc_197, List.forall_mem_cons.mpr ⟨fun _ => mc_198, List.forall_mem_cons.mpr ⟨fun _ => mc_199, fun _ h => absurd h List.not_mem_nil⟩⟩⟩⟩⟩⟩⟩⟩⟩⟩⟩⟩⟩⟩⟩⟩⟩⟩⟩⟩
theorem MIc_10 : ∀ q ∈ MIq_10, q.2 ≠ 0 → miC q ∈ lw_tbl := List.forall_mem_cons.mpr ⟨fun _ => mc_200, List.forall_mem_cons.mpr ⟨fun _ => mc_201, List.forall_mem_cons.mpr ⟨fun _ => mc_202, List.forall_mem_cons.mpr ⟨fun _ => mc_203, List.forall_mem_cons.mpr ⟨fun _ => mc_204, List.forall_mem_cons.mpr ⟨fun _ => mc_205, List.forall_mem_cons.mpr ⟨fun _ => mc_206, List.forall_mem_cons.mpr ⟨fun _ => mc_207, List.forall_mem_cons.mpr ⟨fun _ => mc_208, List.forall_mem_cons.mpr ⟨fun _ => mc_209, List.forall_mem_cons.mpr ⟨fun _ => mc_210, List.forall_mem_cons.mpr ⟨fun _ => mc_211, List.forall_mem_cons.mpr ⟨fun _ => mc_212, List.forall_mem_cons.mpr ⟨fun _ => mc_213, List.forall_mem_cons.mpr ⟨fun _ => mc_214, List.forall_mem_cons.mpr ⟨fun _ => mc_215, List.forall_mem_cons.mpr ⟨fun _ => mc_216, List.forall_mem_cons.mpr ⟨fun _ => mc_217, List.forall_mem_cons.mpr ⟨fun _ => mc_218, List.forall_mem_cons.mpr ⟨fun _ => mc_219, fun _ h => absurd h List.not_mem_nil⟩⟩⟩⟩⟩⟩⟩⟩⟩⟩⟩⟩⟩⟩⟩⟩⟩⟩⟩⟩
theorem MIc_11 : ∀ q ∈ MIq_11, q.2 ≠ 0 → miC q ∈ lw_tbl := List.forall_mem_cons.mpr ⟨fun _ => mc_220, List.forall_mem_cons.mpr ⟨fun _ => mc_221, List.forall_mem_cons.mpr ⟨fun _ => mc_222, List.forall_mem_cons.mpr ⟨fun _ => mc_223, List.forall_mem_cons.mpr ⟨fun _ => mc_224, List.forall_mem_cons.mpr ⟨fun _ => mc_225, List.forall_mem_cons.mpr ⟨fun _ => mc_226, List.forall_mem_cons.mpr ⟨fun _ => mc_227, List.forall_mem_cons.mpr ⟨fun _ => mc_228, List.forall_mem_cons.mpr ⟨fun _ => mc_229, List.forall_mem_cons.mpr ⟨fun _ => mc_230, List.forall_mem_cons.mpr ⟨fun _ => mc_231, List.forall_mem_cons.mpr ⟨fun _ => mc_232, List.forall_mem_cons.mpr ⟨fun _ => mc_233, List.forall_mem_cons.mpr ⟨fun _ => mc_234, List.forall_mem_cons.mpr ⟨fun _ => mc_235, List.forall_mem_cons.mpr ⟨fun _ => mc_236, List.forall_mem_cons.mpr ⟨fun _ => mc_237, List.forall_mem_cons.mpr ⟨fun _ => mc_238, List.forall_mem_cons.mpr ⟨fun _ => mc_239, fun _ h => absurd h List.not_mem_nil⟩⟩⟩⟩⟩⟩⟩⟩⟩⟩⟩⟩⟩⟩⟩⟩⟩⟩⟩⟩
theorem MIc_12 : ∀ q ∈ MIq_12, q.2 ≠ 0 → miC q ∈ lw_tbl := List.forall_mem_cons.mpr ⟨fun _ => mc_240, List.forall_mem_cons.mpr ⟨fun _ => mc_241, List.forall_mem_cons.mpr ⟨fun _ => mc_242, List.forall_mem_cons.mpr ⟨fun _ => mc_243, List.forall_mem_cons.mpr ⟨fun _ => mc_244, List.forall_mem_cons.mpr ⟨fun _ => mc_245, List.forall_mem_cons.mpr ⟨fun _ => mc_246, List.forall_mem_cons.mpr ⟨fun _ => mc_247, List.forall_mem_cons.mpr ⟨fun _ => mc_248, List.forall_mem_cons.mpr ⟨fun _ => mc_249, List.forall_mem_cons.mpr ⟨fun _ => mc_250, List.forall_mem_cons.mpr ⟨fun _ => mc_251, List.forall_mem_cons.mpr ⟨fun _ => mc_252, List.forall_mem_cons.mpr ⟨fun _ => mc_253, List.forall_mem_cons.mpr ⟨fun _ => mc_254, List.forall_mem_cons.mpr ⟨fun _ => mc_255, List.forall_mem_cons.mpr ⟨fun _ => mc_256, List.forall_mem_cons.mpr ⟨fun _ => mc_257, List.forall_mem_cons.mpr ⟨fun _ => mc_258, List.forall_mem_cons.mpr ⟨fun _ => mc_259, fun _ h => absurd h List.not_mem_nil⟩⟩⟩⟩⟩⟩⟩⟩⟩⟩⟩⟩⟩⟩⟩⟩⟩⟩⟩⟩
theorem MIc_13 : ∀ q ∈ MIq_13, q.2 ≠ 0 → miC q ∈ lw_tbl := List.forall_mem_cons.mpr ⟨fun _ => mc_260, List.forall_mem_cons.mpr ⟨fun _ => mc_261, List.forall_mem_cons.mpr ⟨fun _ => mc_262, List.forall_mem_cons.mpr ⟨fun _ => mc_263, List.forall_mem_cons.mpr ⟨fun _ => mc_264, List.forall_mem_cons.mpr ⟨fun _ => mc_265, List.forall_mem_cons.mpr ⟨fun _ => mc_266, List.forall_mem_cons.mpr ⟨fun _ => mc_267, List.forall_mem_cons.mpr ⟨fun _ => mc_268, List.forall_mem_cons.mpr ⟨fun _ => mc_269, List.forall_mem_cons.mpr ⟨fun _ => mc_270, List.forall_mem_cons.mpr ⟨fun _ => mc_271, List.forall_mem_cons.mpr ⟨fun _ => mc_272, List.forall_mem_cons.mpr ⟨fun _ => mc_273, List.forall_mem_cons.mpr ⟨fun _ => mc_274, List.forall_mem_cons.mpr ⟨fun _ => mc_275, List.forall_mem_cons.mpr ⟨fun _ => mc_276, List.forall_mem_cons.mpr ⟨fun _ => mc_277, List.forall_mem_cons.mpr ⟨fun _ => mc_278, List.forall_mem_cons.mpr ⟨fun _ => mc_279, fun _ h => absurd h List.not_mem_nil⟩⟩⟩⟩⟩⟩⟩⟩⟩⟩⟩⟩⟩⟩⟩⟩⟩⟩⟩⟩
theorem MIc_14 : ∀ q ∈ MIq_14, q.2 ≠ 0 → miC q ∈ lw_tbl := List.forall_mem_cons.mpr ⟨fun _ => mc_280, List.forall_mem_cons.mpr ⟨fun _ => mc_281, List.forall_mem_cons.mpr ⟨fun _ => mc_282, List.forall_mem_cons.mpr ⟨fun _ => mc_283, List.forall_mem_cons.mpr ⟨fun _ => mc_284, List.forall_mem_cons.mpr ⟨fun _ => mc_285, List.forall_mem_cons.mpr ⟨fun _ => mc_286, List.forall_mem_cons.mpr ⟨fun _ => mc_287, List.forall_mem_cons.mpr ⟨fun _ => mc_288, List.forall_mem_cons.mpr ⟨fun _ => mc_289, List.forall_mem_cons.mpr ⟨fun _ => mc_290, List.forall_mem_cons.mpr ⟨fun _ => mc_291, List.forall_mem_cons.mpr ⟨fun _ => mc_292, List.forall_mem_cons.mpr ⟨fun _ => mc_293, List.forall_mem_cons.mpr ⟨fun _ => mc_294, List.forall_mem_cons.mpr ⟨fun _ => mc_295, List.forall_mem_cons.mpr ⟨fun _ => mc_296, List.forall_mem_cons.mpr ⟨fun _ => mc_297, List.forall_mem_cons.mpr ⟨fun _ => mc_298, List.forall_mem_cons.mpr ⟨fun _ => mc_299, fun _ h => absurd h List.not_mem_nil⟩⟩⟩⟩⟩⟩⟩⟩⟩⟩⟩⟩⟩⟩⟩⟩⟩⟩⟩⟩
theorem MIc_15 : ∀ q ∈ MIq_15, q.2 ≠ 0 → miC q ∈ lw_tbl := List.forall_mem_cons.mpr ⟨fun _ => mc_300, List.forall_mem_cons.mpr ⟨fun _ => mc_301, List.forall_mem_cons.mpr ⟨fun _ => mc_302, List.forall_mem_cons.mpr ⟨fun _ => mc_303, List.forall_mem_cons.mpr ⟨fun _ => mc_304, List.forall_mem_cons.mpr ⟨fun _ => mc_305, List.forall_mem_cons.mpr ⟨fun _ => mc_306, List.forall_mem_cons.mpr ⟨fun _ => mc_307, List.forall_mem_cons.mpr ⟨fun _ => mc_308, List.forall_mem_cons.mpr ⟨fun _ => mc_309, List.forall_mem_cons.mpr ⟨fun _ => mc_310, List.forall_mem_cons.mpr ⟨fun _ => mc_311, List.forall_mem_cons.mpr ⟨fun _ => mc_312, List.forall_mem_cons.mpr ⟨fun _ => mc_313, List.forall_mem_cons.mpr ⟨fun _ => mc_314, List.forall_mem_cons.mpr ⟨fun _ => mc_315, List.forall_mem_cons.mpr ⟨fun _ => mc_316, List.forall_mem_cons.mpr ⟨fun _ => mc_317, List.forall_mem_cons.mpr ⟨fun _ => mc_318, List.forall_mem_cons.mpr ⟨fun _ => mc_319, fun _ h => absurd h List.not_mem_nil⟩⟩⟩⟩⟩⟩⟩⟩⟩⟩⟩⟩⟩⟩⟩⟩⟩⟩⟩⟩
theorem MIc_16 : ∀ q ∈ MIq_16, q.2 ≠ 0 → miC q ∈ lw_tbl := List.forall_mem_cons.mpr ⟨fun _ => mc_320, List.forall_mem_cons.mpr ⟨fun _ => mc_321, List.forall_mem_cons.mpr ⟨fun _ => mc_322, List.forall_mem_cons.mpr ⟨fun _ => mc_323, List.forall_mem_cons.mpr ⟨fun _ => mc_324, List.forall_mem_cons.mpr ⟨fun _ => mc_325, List.forall_mem_cons.mpr ⟨fun _ => mc_326, List.forall_mem_cons.mpr ⟨fun _ => mc_327, List.forall_mem_cons.mpr ⟨fun _ => mc_328, List.forall_mem_cons.mpr ⟨fun _ => mc_329, List.forall_mem_cons.mpr ⟨fun _ => mc_330, List.forall_mem_cons.mpr ⟨fun _ => mc_331, List.forall_mem_cons.mpr ⟨fun _ => mc_332, List.forall_mem_cons.mpr ⟨fun _ => mc_333, List.forall_mem_cons.mpr ⟨fun _ => mc_334, List.forall_mem_cons.mpr ⟨fun _ => mc_335, List.forall_mem_cons.mpr ⟨fun _ => mc_336, List.forall_mem_cons.mpr ⟨fun _ => mc_337, List.forall_mem_cons.mpr ⟨fun _ => mc_338, List.forall_mem_cons.mpr ⟨fun _ => mc_339, fun _ h => absurd h List.not_mem_nil⟩⟩⟩⟩⟩⟩⟩⟩⟩⟩⟩⟩⟩⟩⟩⟩⟩⟩⟩⟩
theorem MIc_17 : ∀ q ∈ MIq_17, q.2 ≠ 0 → miC q ∈ lw_tbl := List.forall_mem_cons.mpr ⟨fun _ => mc_340, List.forall_mem_cons.mpr ⟨fun _ => mc_341, List.forall_mem_cons.mpr ⟨fun _ => mc_342, List.forall_mem_cons.mpr ⟨fun _ => mc_343, List.forall_mem_cons.mpr ⟨fun _ => mc_344, List.forall_mem_cons.mpr ⟨fun _ => mc_345, List.forall_mem_cons.mpr ⟨fun _ => mc_346, List.forall_mem_cons.mpr ⟨fun _ => mc_347, List.forall_mem_cons.mpr ⟨fun _ => mc_348, List.forall_mem_cons.mpr ⟨fun _ => mc_349, List.forall_mem_cons.mpr ⟨fun _ => mc_350, List.forall_mem_cons.mpr ⟨fun _ => mc_351, List.forall_mem_cons.mpr ⟨fun _ => mc_352, List.forall_mem_cons.mpr ⟨fun _ => mc_353, List.forall_mem_cons.mpr ⟨fun _ => mc_354, List.forall_mem_cons.mpr ⟨fun _ => mc_355, List.forall_mem_cons.mpr ⟨fun _ => mc_356, List.forall_mem_cons.mpr ⟨fun _ => mc_357, List.forall_mem_cons.mpr ⟨fun _ => mc_358, List.forall_mem_cons.mpr ⟨fun _ => mc_359, fun _ h => absurd h List.not_mem_nil⟩⟩⟩⟩⟩⟩⟩⟩⟩⟩⟩⟩⟩⟩⟩⟩⟩⟩⟩⟩
theorem MIc_18 : ∀ q ∈ MIq_18, q.2 ≠ 0 → miC q ∈ lw_tbl := List.forall_mem_cons.mpr ⟨fun _ => mc_360, List.forall_mem_cons.mpr ⟨fun _ => mc_361, List.forall_mem_cons.mpr ⟨fun _ => mc_362, List.forall_mem_cons.mpr ⟨fun _ => mc_363, List.forall_mem_cons.mpr ⟨fun _ => mc_364, List.forall_mem_cons.mpr ⟨fun _ => mc_365, List.forall_mem_cons.mpr ⟨fun _ => mc_366, List.forall_mem_cons.mpr ⟨fun _ => mc_367, List.forall_mem_cons.mpr ⟨fun _ => mc_368, List.forall_mem_cons.mpr ⟨fun _ => mc_369, List.forall_mem_cons.mpr ⟨fun _ => mc_370, List.forall_mem_cons.mpr ⟨fun _ => mc_371, List.forall_mem_cons.mpr ⟨fun _ => mc_372, List.forall_mem_cons.mpr ⟨fun _ => mc_373, List.forall_mem_cons.mpr ⟨fun _ => mc_374, List.forall_mem_cons.mpr ⟨fun _ => mc_375, List.forall_mem_cons.mpr ⟨fun _ => mc_376, List.forall_mem_cons.mpr ⟨fun _ => mc_377, List.forall_mem_cons.mpr ⟨fun _ => mc_378, List.forall_mem_cons.mpr ⟨fun _ => mc_379, fun _ h => absurd h List.not_mem_nil⟩⟩⟩⟩⟩⟩⟩⟩⟩⟩⟩⟩⟩⟩⟩⟩⟩⟩⟩⟩
theorem MIc_19 : ∀ q ∈ MIq_19, q.2 ≠ 0 → miC q ∈ lw_tbl := List.forall_mem_cons.mpr ⟨fun _ => mc_380, List.forall_mem_cons.mpr ⟨fun _ => mc_381, List.forall_mem_cons.mpr ⟨fun _ => mc_382, fun _ h => absurd h List.not_mem_nil⟩⟩⟩
theorem MI_codeq : ∀ q ∈ MIq, q.2 ≠ 0 → miC q ∈ lw_tbl := by
  intro q hq
  unfold MIq at hq
  simp only [List.mem_append] at hq
  rcases hq with (((((((((((((((((((h | h) | h) | h) | h) | h) | h) | h) | h) | h) | h) | h) | h) | h) | h) | h) | h) | h) | h) | h)
  · exact MIc_0 q h
  · exact MIc_1 q h
  · exact MIc_2 q h
  · exact MIc_3 q h
  · exact MIc_4 q h
  · exact MIc_5 q h
  · exact MIc_6 q h
  · exact MIc_7 q h
  · exact MIc_8 q h
  · exact MIc_9 q h
  · exact MIc_10 q h
  · exact MIc_11 q h
  · exact MIc_12 q h
  · exact MIc_13 q h
  · exact MIc_14 q h
  · exact MIc_15 q h
  · exact MIc_16 q h
  · exact MIc_17 q h
  · exact MIc_18 q h
  · exact MIc_19 q h
theorem MIq_ix : MIq.map (fun q => q.2) = List.range 383 := by decide +kernel
theorem MI_code {y : Nat} {e : MIt} (h : MI[y]? = some e) (hy : y ≠ 0) : miC (e, y) ∈ lw_tbl := by
  unfold MI at h
  rw [List.getElem?_map] at h
  obtain ⟨q, hq, he⟩ := Option.map_eq_some_iff.mp h
  have hx : (MIq.map (fun q => q.2))[y]? = some q.2 := by rw [List.getElem?_map, hq]; rfl
  rw [MIq_ix] at hx
  have hy2 : q.2 = y := by
    obtain ⟨hl, he2⟩ := List.getElem?_eq_some_iff.mp hx
    rw [List.getElem_range] at he2
    exact he2.symm
  have hz := MI_codeq q (List.mem_of_getElem? hq) (hy2 ▸ hy)
  have : q = (e, y) := Prod.ext he hy2
  rw [← this]; exact hz
def crW (e : CRt) : Cond := .classLink e.1 e.2.1 (fC e.2.2)
set_option maxRecDepth 1000000 in
theorem CR_in : ∀ e ∈ CR, crW e ∈ lw_tbl := in_all (ps := [(1, 33), (8, 52), (1, 41), (1, 140), (2, 48), (1, 47), (1, 146), (1, 186), (3, 29), (3, 31), (4, 10), (4, 89)]) (by decide +kernel)
def clI (q : String × u_T × Nat × (Nat → FieldType)) : Cond := .initialized q.1
set_option maxRecDepth 1000000 in
theorem CL_ini : ∀ e ∈ cTab, clI e ∈ lw_tbl := in_all (ps := [(1, 6), (1, 5), (1, 3), (1, 16), (1, 2), (1, 4), (1, 17), (1, 1), (1, 11), (1, 9), (1, 8)]) (by decide +kernel)
def clN (q : String × u_T × Nat × (Nat → FieldType)) : Cond := .instantiable q.1 q.2.2.1
set_option maxRecDepth 1000000 in
theorem CL_inst : ∀ e ∈ cTab, clN e ∈ lw_tbl := in_all (ps := [(1, 187), (1, 147), (1, 48), (3, 30), (1, 42), (1, 141), (3, 32), (1, 34), (8, 53), (4, 90), (2, 49)]) (by decide +kernel)
def krW (e : String × Nat × Int32) : Cond := .constant e.1 e.2.1 e.2.2
set_option maxRecDepth 1000000 in
theorem KR_in : ∀ e ∈ KR, krW e ∈ lw_tbl := in_all (ps := [(9, 12), (6, 231), (6, 8), (7, 34), (7, 35), (7, 36), (8, 230), (6, 161), (3, 215), (4, 229), (4, 37), (4, 33)]) (by decide +kernel)
def klW (e : String × Nat × Int64) : Cond := .constantLong e.1 e.2.1 e.2.2
set_option maxRecDepth 1000000 in
theorem KL_in : ∀ e ∈ KL, klW e ∈ lw_tbl := in_all (ps := [(10, 176), (9, 25), (9, 26), (5, 10), (5, 11), (8, 188), (8, 189)]) (by decide +kernel)
def arW (e : String × Nat) : Cond := .classLink e.1 e.2 "FishGrader$State"
set_option maxRecDepth 1000000 in
theorem AR_in : ∀ e ∈ AR, arW e ∈ lw_tbl := in_all (ps := [(1, 140)]) (by decide +kernel)
def inN : Nat → MethodName
  | 1 => Lib.Math.min.name
  | 2 => Lib.Math.max.name
  | 3 => Lib.MathLoose.min_long.x
  | 4 => arraycopyName
  | _ => ⟨"java/lang/String", "checkIndex", "(II)V"⟩
def irW (e : String × Nat × Nat) : Cond := .methodLink e.1 e.2.1 (inN e.2.2)
set_option maxRecDepth 1000000 in
theorem IR_in : ∀ e ∈ IR, irW e ∈ lw_tbl := in_all (ps := [(9, 37), (9, 27), (10, 25), (6, 112), (5, 12), (5, 19), (7, 62), (6, 131), (5, 46), (3, 37), (8, 49), (8, 50), (3, 154), (6, 117), (6, 122), (6, 178), (4, 48), (4, 49), (4, 195), (4, 30)]) (by decide +kernel)
def oiW (e : String × Nat) : Cond := .methodLink e.1 e.2 Lib.objectInit
set_option maxRecDepth 1000000 in
theorem OI_in : ∀ e ∈ OI, oiW e ∈ lw_tbl := in_all (ps := [(1, 38), (8, 57), (1, 46), (1, 145), (1, 52), (1, 151), (1, 191), (2, 56), (3, 36), (3, 65), (4, 97)]) (by decide +kernel)
def xrW (e : XRt) : Cond := .classLink e.1 e.2.1 (exN e.2.2.2.2.1)
set_option maxRecDepth 1000000 in
theorem XR_in : ∀ e ∈ XR, xrW e ∈ lw_tbl := in_all (ps := [(2, 199), (5, 74), (5, 74), (5, 51), (5, 74), (7, 86), (2, 199), (2, 199), (5, 51), (5, 74), (2, 199), (2, 199), (5, 51), (2, 199), (2, 199), (2, 199)]) (by decide +kernel)
