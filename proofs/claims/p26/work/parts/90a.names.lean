def chT : List (List Cond) := [(k2_sels lw_privs), tables_1_1, tables_1_2, tables_1_3, tables_1_4, tables_1_5]
theorem lw_fa : lw_tbl = faL chT := rfl
theorem mem_pc {ws : List Cond} (ps : List (Nat × Nat)) (hp : ws = ps.filterMap (fun p => (chT[p.1]?).bind (fun c => c[p.2]?))) : ∀ w ∈ ws, w ∈ lw_tbl := by
  intro w hw
  rw [hp] at hw
  obtain ⟨p, -, hi⟩ := List.mem_filterMap.mp hw
  obtain ⟨c, hc, hi2⟩ := Option.bind_eq_some_iff.mp hi
  rw [lw_fa]
  exact faL_mem (List.mem_of_getElem? hc) (List.mem_of_getElem? hi2)
set_option maxRecDepth 100000 in
theorem lwI_wsL_law_r1 : ∀ w ∈ wsL_law_r1, w ∈ lw_tbl := mem_pc [(1, 14), (1, 15), (1, 1), (3, 168), (3, 169), (1, 7), (5, 12), (1, 16), (1, 17), (1, 18), (1, 19), (1, 20), (1, 21), (1, 22), (1, 150), (1, 24), (1, 2), (1, 151), (1, 77), (1, 78), (1, 4), (1, 152), (1, 93), (1, 94)] (by first | exact rfl | decide +kernel)
set_option maxRecDepth 100000 in
theorem lwI_wsL_law_r2 : ∀ w ∈ wsL_law_r2, w ∈ lw_tbl := mem_pc [(1, 5), (1, 153), (1, 110), (1, 111), (1, 6), (1, 154), (1, 155), (1, 25), (1, 26), (1, 27), (1, 28), (1, 29), (1, 64), (1, 31), (1, 3), (1, 33), (1, 34), (1, 35), (1, 52), (1, 79), (1, 80), (1, 81), (1, 82), (1, 83)] (by first | exact rfl | decide +kernel)
set_option maxRecDepth 100000 in
theorem lwI_wsL_law_r3 : ∀ w ∈ wsL_law_r3, w ∈ lw_tbl := mem_pc [(1, 85), (1, 84), (1, 96), (1, 97), (1, 98), (1, 109), (1, 99), (1, 113), (1, 114), (1, 115), (1, 149), (1, 126), (1, 127), (3, 170), (3, 171), (3, 172), (3, 173), (3, 176), (3, 177), (3, 178), (3, 179), (3, 174), (2, 1), (3, 180)] (by first | exact rfl | decide +kernel)
set_option maxRecDepth 100000 in
theorem lwI_wsL_law_r4 : ∀ w ∈ wsL_law_r4, w ∈ lw_tbl := mem_pc [(3, 181), (3, 175), (3, 183), (3, 188), (3, 189), (3, 190), (1, 169), (1, 170), (1, 171), (1, 172), (1, 173), (1, 174), (1, 175), (1, 176), (1, 177), (1, 178), (1, 179), (1, 180), (1, 181), (1, 182), (1, 183), (1, 184), (1, 185), (1, 186)] (by first | exact rfl | decide +kernel)
set_option maxRecDepth 100000 in
theorem lwI_wsL_law_r5 : ∀ w ∈ wsL_law_r5, w ∈ lw_tbl := mem_pc [(1, 187), (1, 188), (1, 189), (1, 190), (1, 191), (1, 192), (1, 193), (1, 194), (1, 68), (1, 40), (1, 195), (1, 196), (1, 197), (1, 198), (1, 199), (1, 200), (1, 201), (1, 202), (1, 203), (1, 204), (1, 205), (1, 206), (1, 207), (1, 38)] (by first | exact rfl | decide +kernel)
set_option maxRecDepth 100000 in
theorem lwI_wsL_law_r6 : ∀ w ∈ wsL_law_r6, w ∈ lw_tbl := mem_pc [(1, 42), (1, 47), (1, 208), (1, 209), (1, 210), (1, 211), (1, 212), (1, 213), (1, 8), (1, 214), (1, 215), (1, 216), (1, 217), (1, 218), (1, 219), (1, 220), (1, 221), (1, 222), (1, 223), (1, 224), (1, 9), (1, 225), (1, 226), (1, 227)] (by first | exact rfl | decide +kernel)
set_option maxRecDepth 100000 in
theorem lwI_wsL_law_r7 : ∀ w ∈ wsL_law_r7, w ∈ lw_tbl := mem_pc [(1, 228), (1, 229), (1, 231), (0, 0), (1, 232), (1, 49), (1, 233), (1, 234), (1, 235), (1, 236), (1, 237), (1, 238), (1, 239), (2, 0), (3, 225), (3, 226), (3, 227), (3, 228), (4, 0), (3, 229), (3, 230), (3, 231), (3, 232), (3, 233)] (by first | exact rfl | decide +kernel)
set_option maxRecDepth 100000 in
theorem lwI_wsL_law_r8 : ∀ w ∈ wsL_law_r8, w ∈ lw_tbl := mem_pc [(3, 234), (3, 235), (3, 236), (3, 238), (0, 16), (3, 239), (4, 1), (4, 3), (0, 17), (4, 4), (4, 5), (4, 7), (0, 18), (4, 8), (4, 9), (4, 11), (0, 19), (4, 12), (4, 13), (4, 15), (0, 20), (4, 16), (4, 17), (4, 19)] (by first | exact rfl | decide +kernel)
set_option maxRecDepth 100000 in
theorem lwI_wsL_law_r9 : ∀ w ∈ wsL_law_r9, w ∈ lw_tbl := mem_pc [(0, 21), (4, 20), (4, 21), (4, 23), (0, 22), (4, 24), (2, 2), (2, 3), (2, 4), (2, 5), (4, 25), (4, 26), (4, 27), (4, 28), (2, 6), (2, 7), (2, 8), (2, 9), (2, 10), (2, 11), (2, 12), (2, 13), (2, 14), (2, 15)] (by first | exact rfl | decide +kernel)
set_option maxRecDepth 100000 in
theorem lwI_wsL_law_r10 : ∀ w ∈ wsL_law_r10, w ∈ lw_tbl := mem_pc [(2, 16), (4, 29), (4, 30), (4, 31), (4, 32), (4, 37), (4, 33), (4, 34), (4, 35), (4, 36), (4, 38), (4, 40), (0, 23), (4, 41), (4, 42), (4, 44), (0, 24), (4, 45), (2, 17), (2, 18), (2, 19), (2, 20), (2, 21), (2, 22)] (by first | exact rfl | decide +kernel)
set_option maxRecDepth 100000 in
theorem lwI_wsL_law_r11 : ∀ w ∈ wsL_law_r11, w ∈ lw_tbl := mem_pc [(2, 23), (2, 24), (2, 25), (2, 26), (2, 27), (2, 28), (2, 29), (2, 30), (2, 31), (2, 32), (2, 33), (4, 46), (4, 47), (4, 48), (4, 49), (2, 34), (2, 35), (2, 36), (2, 37), (1, 71), (4, 50), (4, 51), (4, 52), (4, 53)] (by first | exact rfl | decide +kernel)
set_option maxRecDepth 100000 in
theorem lwI_wsL_law_r12 : ∀ w ∈ wsL_law_r12, w ∈ lw_tbl := mem_pc [(2, 38), (2, 39), (2, 40), (2, 41), (2, 42), (2, 44), (0, 1), (2, 45), (2, 46), (2, 47), (2, 48), (2, 49), (2, 50), (2, 51), (2, 52), (2, 53), (2, 54), (2, 56), (2, 55), (1, 10), (2, 57), (2, 58), (2, 59), (2, 60)] (by first | exact rfl | decide +kernel)
set_option maxRecDepth 100000 in
theorem lwI_wsL_law_r13 : ∀ w ∈ wsL_law_r13, w ∈ lw_tbl := mem_pc [(2, 61), (2, 62), (2, 63), (2, 64), (2, 65), (2, 66), (2, 67), (2, 68), (2, 69), (2, 70), (2, 71), (2, 72), (2, 73), (2, 74), (2, 75), (2, 76), (4, 54), (4, 55), (4, 56), (4, 57), (4, 58), (4, 59), (4, 61), (0, 25)] (by first | exact rfl | decide +kernel)
set_option maxRecDepth 100000 in
theorem lwI_wsL_law_r14 : ∀ w ∈ wsL_law_r14, w ∈ lw_tbl := mem_pc [(4, 62), (4, 63), (4, 64), (4, 66), (0, 26), (4, 67), (4, 68), (4, 69), (4, 70), (4, 71), (4, 72), (4, 73), (4, 74), (4, 75), (4, 77), (0, 27), (4, 78), (4, 79), (4, 81), (0, 28), (4, 82), (2, 77), (2, 78), (2, 79)] (by first | exact rfl | decide +kernel)
set_option maxRecDepth 100000 in
theorem lwI_wsL_law_r15 : ∀ w ∈ wsL_law_r15, w ∈ lw_tbl := mem_pc [(2, 80), (2, 81), (2, 82), (2, 83), (2, 84), (2, 85), (2, 86), (2, 87), (2, 88), (2, 89), (2, 90), (2, 91), (2, 92), (2, 93), (2, 94), (2, 95), (2, 96), (1, 46), (4, 83), (4, 84), (4, 85), (4, 86), (4, 87), (4, 89)] (by first | exact rfl | decide +kernel)
