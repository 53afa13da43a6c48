set_option maxRecDepth 100000 in
theorem lwI_wsL_law_r31 : ∀ w ∈ wsL_law_r31, w ∈ lw_tbl := mem_ps [13, 634, 635, 98, 636, 637, 639, 14, 640, 641, 643, 15, 644, 102, 645, 938, 939, 940, 941, 713, 715, 714, 942, 944] (by decide +kernel)
set_option maxRecDepth 100000 in
theorem lwI_wsL_law_r32 : ∀ w ∈ wsL_law_r32, w ∈ lw_tbl := mem_ps [38, 945, 719, 946, 948, 39, 949, 962, 963, 964, 950, 952, 40, 953, 954, 956, 41, 957, 958, 960, 42, 961, 965, 967] (by decide +kernel)
set_option maxRecDepth 100000 in
theorem lwI_wsL_law_r33 : ∀ w ∈ wsL_law_r33, w ∈ lw_tbl := mem_ps [43, 968, 969, 971, 44, 972, 973, 975, 45, 976, 977, 979, 46, 980, 981, 983, 47, 984, 646, 647, 648, 649, 165, 985] (by decide +kernel)
set_option maxRecDepth 100000 in
theorem lwI_wsL_law_r34 : ∀ w ∈ wsL_law_r34, w ∈ lw_tbl := mem_ps [986, 987, 988, 650, 651, 652, 653, 989, 990, 991, 992, 654, 655, 656, 657, 658, 993, 994, 995, 996, 659, 660, 661, 662] (by decide +kernel)
set_option maxRecDepth 100000 in
theorem lwI_wsL_law_r35 : ∀ w ∈ wsL_law_r35, w ∈ lw_tbl := mem_ps [663, 664, 665, 666, 667, 997, 998, 999, 1000, 668, 669, 670, 671, 148, 1001, 1002, 1003, 1004, 672, 673, 674, 675, 1005, 1006] (by decide +kernel)
set_option maxRecDepth 100000 in
theorem lwI_wsL_law_r36 : ∀ w ∈ wsL_law_r36, w ∈ lw_tbl := mem_ps [1007, 1008, 676, 677, 678, 679, 1009, 1010, 1011, 1012, 680, 681, 682, 683, 684, 685, 686, 687, 688, 689, 690, 691, 692, 693] (by decide +kernel)
set_option maxRecDepth 100000 in
theorem lwI_wsL_law_r37 : ∀ w ∈ wsL_law_r37, w ∈ lw_tbl := mem_ps [694, 695, 1013, 1014, 1015, 1016, 1017, 1018, 1019] (by decide +kernel)
set_option maxRecDepth 100000 in
theorem lwI_wsX60 : ∀ w ∈ wsX60, w ∈ lw_tbl := mem_ps [204, 206, 208, 210, 212, 214] (by decide +kernel)
set_option maxRecDepth 100000 in
theorem lwI_wsX70 : ∀ w ∈ wsX70, w ∈ lw_tbl := mem_ps [720, 722, 724, 726, 728, 730, 732, 734, 736, 738, 740, 742, 744, 746, 748, 750] (by decide +kernel)
set_option maxRecDepth 100000 in
theorem lwI_wsX20 : ∀ w ∈ wsX20, w ∈ lw_tbl := mem_ps [120, 122] (by decide +kernel)
set_option maxRecDepth 100000 in
theorem lwI_wsX30 : ∀ w ∈ wsX30, w ∈ lw_tbl := mem_ps [136, 138] (by decide +kernel)
set_option maxRecDepth 100000 in
theorem lwI_wsX00 : ∀ w ∈ wsX00, w ∈ lw_tbl := mem_ps [152, 154] (by decide +kernel)
set_option maxRecDepth 100000 in
theorem lwI_wsX40 : ∀ w ∈ wsX40, w ∈ lw_tbl := mem_ps [176, 178, 180, 182, 184, 186, 188, 190, 192, 194] (by decide +kernel)
set_option maxRecDepth 100000 in
theorem lwI_wsX10 : ∀ w ∈ wsX10, w ∈ lw_tbl := mem_ps [103, 105, 107, 109] (by decide +kernel)
