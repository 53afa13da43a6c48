set_option maxRecDepth 100000 in
theorem lwI_wsL_law_r31 : ∀ w ∈ wsL_law_r31, w ∈ lw_tbl := mem_pc [(0, 13), (3, 106), (3, 107), (1, 50), (3, 108), (3, 109), (3, 111), (0, 14), (3, 112), (3, 113), (3, 115), (0, 15), (3, 116), (1, 54), (3, 117), (4, 170), (4, 171), (4, 172), (4, 173), (3, 185), (3, 187), (3, 186), (4, 174), (4, 176)] (by first | exact rfl | decide +kernel)
set_option maxRecDepth 100000 in
theorem lwI_wsL_law_r32 : ∀ w ∈ wsL_law_r32, w ∈ lw_tbl := mem_pc [(0, 38), (4, 177), (3, 191), (4, 178), (4, 180), (0, 39), (4, 181), (4, 194), (4, 195), (4, 196), (4, 182), (4, 184), (0, 40), (4, 185), (4, 186), (4, 188), (0, 41), (4, 189), (4, 190), (4, 192), (0, 42), (4, 193), (4, 197), (4, 199)] (by first | exact rfl | decide +kernel)
set_option maxRecDepth 100000 in
theorem lwI_wsL_law_r33 : ∀ w ∈ wsL_law_r33, w ∈ lw_tbl := mem_pc [(0, 43), (4, 200), (4, 201), (4, 203), (0, 44), (4, 204), (4, 205), (4, 207), (0, 45), (4, 208), (4, 209), (4, 211), (0, 46), (4, 212), (4, 213), (4, 215), (0, 47), (4, 216), (3, 118), (3, 119), (3, 120), (3, 121), (1, 117), (4, 217)] (by first | exact rfl | decide +kernel)
set_option maxRecDepth 100000 in
theorem lwI_wsL_law_r34 : ∀ w ∈ wsL_law_r34, w ∈ lw_tbl := mem_pc [(4, 218), (4, 219), (4, 220), (3, 122), (3, 123), (3, 124), (3, 125), (4, 221), (4, 222), (4, 223), (4, 224), (3, 126), (3, 127), (3, 128), (3, 129), (3, 130), (4, 225), (4, 226), (4, 227), (4, 228), (3, 131), (3, 132), (3, 133), (3, 134)] (by first | exact rfl | decide +kernel)
set_option maxRecDepth 100000 in
theorem lwI_wsL_law_r35 : ∀ w ∈ wsL_law_r35, w ∈ lw_tbl := mem_pc [(3, 135), (3, 136), (3, 137), (3, 138), (3, 139), (4, 229), (4, 230), (4, 231), (4, 232), (3, 140), (3, 141), (3, 142), (3, 143), (1, 100), (4, 233), (4, 234), (4, 235), (4, 236), (3, 144), (3, 145), (3, 146), (3, 147), (4, 237), (4, 238)] (by first | exact rfl | decide +kernel)
set_option maxRecDepth 100000 in
theorem lwI_wsL_law_r36 : ∀ w ∈ wsL_law_r36, w ∈ lw_tbl := mem_pc [(4, 239), (5, 0), (3, 148), (3, 149), (3, 150), (3, 151), (5, 1), (5, 2), (5, 3), (5, 4), (3, 152), (3, 153), (3, 154), (3, 155), (3, 156), (3, 157), (3, 158), (3, 159), (3, 160), (3, 161), (3, 162), (3, 163), (3, 164), (3, 165)] (by first | exact rfl | decide +kernel)
set_option maxRecDepth 100000 in
theorem lwI_wsL_law_r37 : ∀ w ∈ wsL_law_r37, w ∈ lw_tbl := mem_pc [(3, 166), (3, 167), (5, 5), (5, 6), (5, 7), (5, 8), (5, 9), (5, 10), (5, 11)] (by first | exact rfl | decide +kernel)
set_option maxRecDepth 100000 in
theorem lwI_wsX60 : ∀ w ∈ wsX60, w ∈ lw_tbl := mem_pc [(1, 156), (1, 158), (1, 160), (1, 162), (1, 164), (1, 166)] (by first | exact rfl | decide +kernel)
set_option maxRecDepth 100000 in
theorem lwI_wsX70 : ∀ w ∈ wsX70, w ∈ lw_tbl := mem_pc [(3, 192), (3, 194), (3, 196), (3, 198), (3, 200), (3, 202), (3, 204), (3, 206), (3, 208), (3, 210), (3, 212), (3, 214), (3, 216), (3, 218), (3, 220), (3, 222)] (by first | exact rfl | decide +kernel)
set_option maxRecDepth 100000 in
theorem lwI_wsX20 : ∀ w ∈ wsX20, w ∈ lw_tbl := mem_pc [(1, 72), (1, 74)] (by first | exact rfl | decide +kernel)
set_option maxRecDepth 100000 in
theorem lwI_wsX30 : ∀ w ∈ wsX30, w ∈ lw_tbl := mem_pc [(1, 88), (1, 90)] (by first | exact rfl | decide +kernel)
set_option maxRecDepth 100000 in
theorem lwI_wsX00 : ∀ w ∈ wsX00, w ∈ lw_tbl := mem_pc [(1, 104), (1, 106)] (by first | exact rfl | decide +kernel)
set_option maxRecDepth 100000 in
theorem lwI_wsX40 : ∀ w ∈ wsX40, w ∈ lw_tbl := mem_pc [(1, 128), (1, 130), (1, 132), (1, 134), (1, 136), (1, 138), (1, 140), (1, 142), (1, 144), (1, 146)] (by first | exact rfl | decide +kernel)
set_option maxRecDepth 100000 in
theorem lwI_wsX10 : ∀ w ∈ wsX10, w ∈ lw_tbl := mem_pc [(1, 55), (1, 57), (1, 59), (1, 61)] (by first | exact rfl | decide +kernel)
