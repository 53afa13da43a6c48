set_option maxRecDepth 20000 in
theorem wsL_law_in : ∀ w ∈ wsL_law, w ∈ lw_tbl := fun w h => (goodIn_p wsL_law [66, 69, 75, 82, 129, 145, 162, 700, 220, 223, 226, 229, 234, 238, 242, 246, 251, 255, 259, 262, 266, 270, 273, 280, 284, 288, 756, 759, 763, 767, 772, 776, 780, 784, 788, 792, 293, 796, 297, 300, 304, 800, 803, 809, 813, 308, 312, 316, 321, 817, 325, 821, 329, 333, 337, 341, 348, 351, 355, 359, 364, 825, 830, 835, 838, 842, 846, 850, 368, 372, 376, 380, 384, 854, 858, 388, 391, 394, 397, 401, 405, 411, 417, 862, 866, 873, 421, 877, 427, 431, 435, 881, 439, 444, 448, 451, 454, 458, 885, 890, 463, 467, 471, 475, 895, 480, 899, 484, 904, 489, 493, 498, 502, 908, 912, 506, 509, 512, 515, 519, 522, 527, 530, 535, 539, 549, 554, 557, 560, 565, 568, 573, 916, 920, 924, 929, 933, 937, 577, 581, 585, 589, 593, 597, 601, 605, 610, 617, 621, 625, 629, 634, 640, 644, 941, 945, 949, 953, 957, 961, 968, 972, 976, 980, 984, 649, 988, 653, 992, 657, 996, 662, 666, 1000, 671, 1004, 675, 1008, 679, 1012, 683, 688, 694, 1016] (by decide +kernel) (by decide +kernel) w h).1
theorem inlX0 : ∀ w ∈ wsX00, w ∈ wsL_law := fun _ h => List.mem_append_left _ (List.mem_append_left _ (List.mem_append_left _ (List.mem_append_right _ h)))
theorem inX0 : ∀ w ∈ wsX00, w ∈ lw_tbl := fun w h => wsL_law_in w (inlX0 w h)
theorem inlX1 : ∀ w ∈ wsX10, w ∈ wsL_law := fun _ h => List.mem_append_left _ (List.mem_append_right _ h)
theorem inX1 : ∀ w ∈ wsX10, w ∈ lw_tbl := fun w h => wsL_law_in w (inlX1 w h)
theorem inlX2 : ∀ w ∈ wsX20, w ∈ wsL_law := fun _ h => List.mem_append_left _ (List.mem_append_left _ (List.mem_append_left _ (List.mem_append_left _ (List.mem_append_left _ (List.mem_append_right _ h)))))
theorem inX2 : ∀ w ∈ wsX20, w ∈ lw_tbl := fun w h => wsL_law_in w (inlX2 w h)
theorem inlX3 : ∀ w ∈ wsX30, w ∈ wsL_law := fun _ h => List.mem_append_left _ (List.mem_append_left _ (List.mem_append_left _ (List.mem_append_left _ (List.mem_append_right _ h))))
theorem inX3 : ∀ w ∈ wsX30, w ∈ lw_tbl := fun w h => wsL_law_in w (inlX3 w h)
theorem inlX4 : ∀ w ∈ wsX40, w ∈ wsL_law := fun _ h => List.mem_append_left _ (List.mem_append_left _ (List.mem_append_right _ h))
theorem inX4 : ∀ w ∈ wsX40, w ∈ lw_tbl := fun w h => wsL_law_in w (inlX4 w h)
theorem inlX6 : ∀ w ∈ wsX60, w ∈ wsL_law := fun _ h => List.mem_append_left _ (List.mem_append_left _ (List.mem_append_left _ (List.mem_append_left _ (List.mem_append_left _ (List.mem_append_left _ (List.mem_append_left _ (List.mem_append_right _ h)))))))
theorem inX6 : ∀ w ∈ wsX60, w ∈ lw_tbl := fun w h => wsL_law_in w (inlX6 w h)
theorem inlX7 : ∀ w ∈ wsX70, w ∈ wsL_law := fun _ h => List.mem_append_left _ (List.mem_append_left _ (List.mem_append_left _ (List.mem_append_left _ (List.mem_append_left _ (List.mem_append_left _ (List.mem_append_right _ h))))))
theorem inX7 : ∀ w ∈ wsX70, w ∈ lw_tbl := fun w h => wsL_law_in w (inlX7 w h)

