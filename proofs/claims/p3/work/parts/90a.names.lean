theorem mem_ps {big ws : List Cond} (ps : List Nat) (hp : ws = ps.filterMap (fun i => big[i]?)) : ∀ w ∈ ws, w ∈ big := by
  intro w hw
  rw [hp] at hw
  obtain ⟨i, -, hi⟩ := List.mem_filterMap.mp hw
  first | exact List.mem_of_getElem? hi | exact List.getElem?_mem hi
set_option maxRecDepth 100000 in
theorem lwI_wsL_law_r1 : ∀ w ∈ wsL_law_r1, w ∈ lw_tbl := mem_ps [62, 63, 49, 696, 697, 55, 1020, 64, 65, 66, 67, 68, 69, 70, 198, 72, 50, 199, 125, 126, 52, 200, 141, 142] (by decide +kernel)
set_option maxRecDepth 100000 in
theorem lwI_wsL_law_r2 : ∀ w ∈ wsL_law_r2, w ∈ lw_tbl := mem_ps [53, 201, 158, 159, 54, 202, 203, 73, 74, 75, 76, 77, 112, 79, 51, 81, 82, 83, 100, 127, 128, 129, 130, 131] (by decide +kernel)
set_option maxRecDepth 100000 in
theorem lwI_wsL_law_r3 : ∀ w ∈ wsL_law_r3, w ∈ lw_tbl := mem_ps [133, 132, 144, 145, 146, 157, 147, 161, 162, 163, 197, 174, 175, 698, 699, 700, 701, 704, 705, 706, 707, 702, 289, 708] (by decide +kernel)
set_option maxRecDepth 100000 in
theorem lwI_wsL_law_r4 : ∀ w ∈ wsL_law_r4, w ∈ lw_tbl := mem_ps [709, 703, 711, 716, 717, 718, 217, 218, 219, 220, 221, 222, 223, 224, 225, 226, 227, 228, 229, 230, 231, 232, 233, 234] (by decide +kernel)
set_option maxRecDepth 100000 in
theorem lwI_wsL_law_r5 : ∀ w ∈ wsL_law_r5, w ∈ lw_tbl := mem_ps [235, 236, 237, 238, 239, 240, 241, 242, 116, 88, 243, 244, 245, 246, 247, 248, 249, 250, 251, 252, 253, 254, 255, 86] (by decide +kernel)
set_option maxRecDepth 100000 in
theorem lwI_wsL_law_r6 : ∀ w ∈ wsL_law_r6, w ∈ lw_tbl := mem_ps [90, 95, 256, 257, 258, 259, 260, 261, 56, 262, 263, 264, 265, 266, 267, 268, 269, 270, 271, 272, 57, 273, 274, 275] (by decide +kernel)
set_option maxRecDepth 100000 in
theorem lwI_wsL_law_r7 : ∀ w ∈ wsL_law_r7, w ∈ lw_tbl := mem_ps [276, 277, 279, 0, 280, 97, 281, 282, 283, 284, 285, 286, 287, 288, 753, 754, 755, 756, 768, 757, 758, 759, 760, 761] (by decide +kernel)
set_option maxRecDepth 100000 in
theorem lwI_wsL_law_r8 : ∀ w ∈ wsL_law_r8, w ∈ lw_tbl := mem_ps [762, 763, 764, 766, 16, 767, 769, 771, 17, 772, 773, 775, 18, 776, 777, 779, 19, 780, 781, 783, 20, 784, 785, 787] (by decide +kernel)
set_option maxRecDepth 100000 in
theorem lwI_wsL_law_r9 : ∀ w ∈ wsL_law_r9, w ∈ lw_tbl := mem_ps [21, 788, 789, 791, 22, 792, 290, 291, 292, 293, 793, 794, 795, 796, 294, 295, 296, 297, 298, 299, 300, 301, 302, 303] (by decide +kernel)
set_option maxRecDepth 100000 in
theorem lwI_wsL_law_r10 : ∀ w ∈ wsL_law_r10, w ∈ lw_tbl := mem_ps [304, 797, 798, 799, 800, 805, 801, 802, 803, 804, 806, 808, 23, 809, 810, 812, 24, 813, 305, 306, 307, 308, 309, 310] (by decide +kernel)
set_option maxRecDepth 100000 in
theorem lwI_wsL_law_r11 : ∀ w ∈ wsL_law_r11, w ∈ lw_tbl := mem_ps [311, 312, 313, 314, 315, 316, 317, 318, 319, 320, 321, 814, 815, 816, 817, 322, 323, 324, 325, 119, 818, 819, 820, 821] (by decide +kernel)
set_option maxRecDepth 100000 in
theorem lwI_wsL_law_r12 : ∀ w ∈ wsL_law_r12, w ∈ lw_tbl := mem_ps [326, 327, 328, 329, 330, 332, 1, 333, 334, 335, 336, 337, 338, 339, 340, 341, 342, 344, 343, 58, 345, 346, 347, 348] (by decide +kernel)
set_option maxRecDepth 100000 in
theorem lwI_wsL_law_r13 : ∀ w ∈ wsL_law_r13, w ∈ lw_tbl := mem_ps [349, 350, 351, 352, 353, 354, 355, 356, 357, 358, 359, 360, 361, 362, 363, 364, 822, 823, 824, 825, 826, 827, 829, 25] (by decide +kernel)
set_option maxRecDepth 100000 in
theorem lwI_wsL_law_r14 : ∀ w ∈ wsL_law_r14, w ∈ lw_tbl := mem_ps [830, 831, 832, 834, 26, 835, 836, 837, 838, 839, 840, 841, 842, 843, 845, 27, 846, 847, 849, 28, 850, 365, 366, 367] (by decide +kernel)
set_option maxRecDepth 100000 in
theorem lwI_wsL_law_r15 : ∀ w ∈ wsL_law_r15, w ∈ lw_tbl := mem_ps [368, 369, 370, 371, 372, 373, 374, 375, 376, 377, 378, 379, 380, 381, 382, 383, 384, 94, 851, 852, 853, 854, 855, 857] (by decide +kernel)
