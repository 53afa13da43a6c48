set_option maxRecDepth 100000 in
theorem lwI_wsL_law_r16 : ∀ w ∈ wsL_law_r16, w ∈ lw_tbl := mem_ps [29, 858, 385, 386, 387, 388, 134, 389, 390, 391, 392, 393, 394, 395, 396, 397, 398, 399, 400, 401, 135, 402, 404, 2] (by decide +kernel)
set_option maxRecDepth 100000 in
theorem lwI_wsL_law_r17 : ∀ w ∈ wsL_law_r17, w ∈ lw_tbl := mem_ps [405, 406, 407, 408, 409, 410, 411, 412, 413, 414, 415, 416, 417, 859, 860, 861, 862, 863, 867, 868, 869, 864, 865, 866] (by decide +kernel)
set_option maxRecDepth 100000 in
theorem lwI_wsL_law_r18 : ∀ w ∈ wsL_law_r18, w ∈ lw_tbl := mem_ps [870, 872, 30, 873, 418, 419, 420, 421, 422, 423, 874, 875, 876, 877, 424, 425, 426, 427, 428, 429, 430, 431, 432, 433] (by decide +kernel)
set_option maxRecDepth 100000 in
theorem lwI_wsL_law_r19 : ∀ w ∈ wsL_law_r19, w ∈ lw_tbl := mem_ps [434, 435, 878, 879, 880, 881, 436, 437, 438, 439, 440, 441, 442, 443, 444, 459, 445, 446, 447, 448, 449, 450, 451, 452] (by decide +kernel)
set_option maxRecDepth 100000 in
theorem lwI_wsL_law_r20 : ∀ w ∈ wsL_law_r20, w ∈ lw_tbl := mem_ps [453, 59, 454, 455, 456, 457, 458, 882, 883, 884, 885, 886, 887, 889, 31, 890, 891, 460, 461, 462, 463, 464, 465, 466] (by decide +kernel)
set_option maxRecDepth 100000 in
theorem lwI_wsL_law_r21 : ∀ w ∈ wsL_law_r21, w ∈ lw_tbl := mem_ps [467, 468, 469, 470, 471, 472, 474, 3, 475, 476, 892, 893, 894, 895, 477, 478, 479, 480, 896, 897, 898, 899, 900, 481] (by decide +kernel)
set_option maxRecDepth 100000 in
theorem lwI_wsL_law_r22 : ∀ w ∈ wsL_law_r22, w ∈ lw_tbl := mem_ps [482, 483, 484, 115, 89, 93, 99, 485, 901, 902, 903, 904, 486, 487, 488, 489, 490, 491, 492, 493, 494, 495, 496, 497] (by decide +kernel)
set_option maxRecDepth 100000 in
theorem lwI_wsL_law_r23 : ∀ w ∈ wsL_law_r23, w ∈ lw_tbl := mem_ps [498, 499, 500, 501, 502, 905, 906, 907, 908, 909, 911, 32, 912, 503, 504, 505, 506, 524, 151, 507, 508, 60, 509, 117] (by decide +kernel)
set_option maxRecDepth 100000 in
theorem lwI_wsL_law_r24 : ∀ w ∈ wsL_law_r24, w ∈ lw_tbl := mem_ps [113, 510, 511, 512, 513, 514, 515, 516, 517, 518, 519, 520, 521, 522, 91, 96, 523, 525, 526, 527, 87, 528, 529, 530] (by decide +kernel)
set_option maxRecDepth 100000 in
theorem lwI_wsL_law_r25 : ∀ w ∈ wsL_law_r25, w ∈ lw_tbl := mem_ps [531, 551, 532, 533, 534, 535, 149, 536, 537, 538, 539, 540, 541, 542, 543, 544, 546, 547, 548, 61, 549, 550, 552, 553] (by decide +kernel)
set_option maxRecDepth 100000 in
theorem lwI_wsL_law_r26 : ∀ w ∈ wsL_law_r26, w ∈ lw_tbl := mem_ps [554, 555, 556, 557, 558, 559, 560, 101, 561, 562, 563, 564, 565, 566, 567, 568, 569, 570, 571, 572, 573, 913, 914, 915] (by decide +kernel)
set_option maxRecDepth 100000 in
theorem lwI_wsL_law_r27 : ∀ w ∈ wsL_law_r27, w ∈ lw_tbl := mem_ps [916, 712, 710, 917, 919, 33, 920, 921, 923, 34, 924, 925, 926, 928, 35, 929, 930, 932, 36, 933, 934, 936, 37, 937] (by decide +kernel)
set_option maxRecDepth 100000 in
theorem lwI_wsL_law_r28 : ∀ w ∈ wsL_law_r28, w ∈ lw_tbl := mem_ps [574, 575, 576, 577, 167, 578, 579, 580, 581, 164, 166, 168, 150, 169, 170, 171, 172, 173, 118, 582, 584, 4, 585, 606] (by decide +kernel)
set_option maxRecDepth 100000 in
theorem lwI_wsL_law_r29 : ∀ w ∈ wsL_law_r29, w ∈ lw_tbl := mem_ps [612, 613, 586, 588, 5, 589, 590, 592, 6, 593, 594, 596, 7, 597, 598, 599, 600, 601, 602, 603, 604, 605, 607, 609] (by decide +kernel)
set_option maxRecDepth 100000 in
theorem lwI_wsL_law_r30 : ∀ w ∈ wsL_law_r30, w ∈ lw_tbl := mem_ps [8, 610, 611, 614, 616, 9, 617, 618, 620, 10, 621, 622, 624, 11, 625, 626, 628, 12, 629, 114, 92, 630, 631, 633] (by decide +kernel)
