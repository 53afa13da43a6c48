theorem dX7_readsHead_67 : decode cX7_readsHead 67 = .ok (.lcmp, 1) := by decide +kernel
theorem dX7_readsHead_68 : decode cX7_readsHead 68 = .ok (.ifCond .ne 15, 3) := by decide +kernel
theorem dX7_readsHead_71 : decode cX7_readsHead 71 = .ok (.lload_n 1, 1) := by decide +kernel
theorem dX7_readsHead_72 : decode cX7_readsHead 72 = .ok (.ldc2_w 140, 3) := by decide +kernel
theorem dX7_readsHead_75 : decode cX7_readsHead 75 = .ok (.ldiv, 1) := by decide +kernel
theorem dX7_readsHead_76 : decode cX7_readsHead 76 = .ok (.lconst 1, 1) := by decide +kernel
theorem dX7_readsHead_77 : decode cX7_readsHead 77 = .ok (.ladd, 1) := by decide +kernel
theorem dX7_readsHead_78 : decode cX7_readsHead 78 = .ok (.lstore 4, 2) := by decide +kernel
theorem dX7_readsHead_80 : decode cX7_readsHead 80 = .ok (.goto 10, 3) := by decide +kernel
theorem dX7_readsHead_83 : decode cX7_readsHead 83 = .ok (.aload_n 0, 1) := by decide +kernel
theorem dX7_readsHead_84 : decode cX7_readsHead 84 = .ok (.iconst 2, 1) := by decide +kernel
theorem dX7_readsHead_85 : decode cX7_readsHead 85 = .ok (.iconst 0, 1) := by decide +kernel
theorem dX7_readsHead_86 : decode cX7_readsHead 86 = .ok (.invokevirtual 186, 3) := by decide +kernel
theorem dX7_readsHead_89 : decode cX7_readsHead 89 = .ok (.ireturn, 1) := by decide +kernel
theorem dX7_readsHead_90 : decode cX7_readsHead 90 = .ok (.lload 4, 2) := by decide +kernel
theorem dX7_readsHead_92 : decode cX7_readsHead 92 = .ok (.ldc2_w 203, 3) := by decide +kernel
theorem dX7_readsHead_95 : decode cX7_readsHead 95 = .ok (.lcmp, 1) := by decide +kernel
theorem dX7_readsHead_96 : decode cX7_readsHead 96 = .ok (.ifCond .le 18, 3) := by decide +kernel
theorem dX7_readsHead_99 : decode cX7_readsHead 99 = .ok (.aload_n 0, 1) := by decide +kernel
theorem dX7_readsHead_100 : decode cX7_readsHead 100 = .ok (.iconst 3, 1) := by decide +kernel
theorem dX7_readsHead_101 : decode cX7_readsHead 101 = .ok (.iload_n 3, 1) := by decide +kernel
theorem dX7_readsHead_102 : decode cX7_readsHead 102 = .ok (.ifCond .eq 7, 3) := by decide +kernel
theorem dX7_readsHead_105 : decode cX7_readsHead 105 = .ok (.iconst 4, 1) := by decide +kernel
theorem dX7_readsHead_106 : decode cX7_readsHead 106 = .ok (.goto 4, 3) := by decide +kernel
theorem dX7_readsHead_109 : decode cX7_readsHead 109 = .ok (.iconst 2, 1) := by decide +kernel
theorem dX7_readsHead_110 : decode cX7_readsHead 110 = .ok (.invokevirtual 186, 3) := by decide +kernel
theorem dX7_readsHead_113 : decode cX7_readsHead 113 = .ok (.ireturn, 1) := by decide +kernel
theorem dX7_readsHead_114 : decode cX7_readsHead 114 = .ok (.iload_n 3, 1) := by decide +kernel
theorem dX7_readsHead_115 : decode cX7_readsHead 115 = .ok (.ifCond .ne 41, 3) := by decide +kernel
theorem dX7_readsHead_118 : decode cX7_readsHead 118 = .ok (.aload_n 0, 1) := by decide +kernel
theorem dX7_readsHead_119 : decode cX7_readsHead 119 = .ok (.iconst 1, 1) := by decide +kernel
theorem dX7_readsHead_120 : decode cX7_readsHead 120 = .ok (.invokevirtual 189, 3) := by decide +kernel
theorem dX7_readsHead_123 : decode cX7_readsHead 123 = .ok (.ifCond .ne 5, 3) := by decide +kernel
theorem dX7_readsHead_126 : decode cX7_readsHead 126 = .ok (.iconst 0, 1) := by decide +kernel
theorem dX7_readsHead_127 : decode cX7_readsHead 127 = .ok (.ireturn, 1) := by decide +kernel
theorem dX7_readsHead_128 : decode cX7_readsHead 128 = .ok (.aload_n 0, 1) := by decide +kernel
theorem dX7_readsHead_129 : decode cX7_readsHead 129 = .ok (.aload_n 0, 1) := by decide +kernel
theorem dX7_readsHead_130 : decode cX7_readsHead 130 = .ok (.iconst 1, 1) := by decide +kernel
theorem dX7_readsHead_131 : decode cX7_readsHead 131 = .ok (.invokevirtual 192, 3) := by decide +kernel
theorem dX7_readsHead_134 : decode cX7_readsHead 134 = .ok (.l2i, 1) := by decide +kernel
theorem dX7_readsHead_135 : decode cX7_readsHead 135 = .ok (.putfield 198, 3) := by decide +kernel
theorem dX7_readsHead_138 : decode cX7_readsHead 138 = .ok (.aload_n 0, 1) := by decide +kernel
theorem dX7_readsHead_139 : decode cX7_readsHead 139 = .ok (.getfield 198, 3) := by decide +kernel
theorem dX7_readsHead_142 : decode cX7_readsHead 142 = .ok (.lload 4, 2) := by decide +kernel
theorem dX7_readsHead_144 : decode cX7_readsHead 144 = .ok (.l2i, 1) := by decide +kernel
theorem dX7_readsHead_145 : decode cX7_readsHead 145 = .ok (.ishr, 1) := by decide +kernel
theorem dX7_readsHead_146 : decode cX7_readsHead 146 = .ok (.ifCond .eq 10, 3) := by decide +kernel
theorem dX7_readsHead_149 : decode cX7_readsHead 149 = .ok (.aload_n 0, 1) := by decide +kernel
theorem dX7_readsHead_150 : decode cX7_readsHead 150 = .ok (.iconst 4, 1) := by decide +kernel
theorem dX7_readsHead_151 : decode cX7_readsHead 151 = .ok (.iconst 4, 1) := by decide +kernel
theorem dX7_readsHead_152 : decode cX7_readsHead 152 = .ok (.invokevirtual 186, 3) := by decide +kernel
theorem dX7_readsHead_155 : decode cX7_readsHead 155 = .ok (.ireturn, 1) := by decide +kernel
theorem dX7_readsHead_156 : decode cX7_readsHead 156 = .ok (.aload_n 0, 1) := by decide +kernel
theorem dX7_readsHead_157 : decode cX7_readsHead 157 = .ok (.lload 4, 2) := by decide +kernel
theorem dX7_readsHead_159 : decode cX7_readsHead 159 = .ok (.l2i, 1) := by decide +kernel
theorem dX7_readsHead_160 : decode cX7_readsHead 160 = .ok (.invokevirtual 205, 3) := by decide +kernel
theorem dX7_readsHead_163 : decode cX7_readsHead 163 = .ok (.ifCond .eq 35, 3) := by decide +kernel
theorem dX7_readsHead_166 : decode cX7_readsHead 166 = .ok (.aload_n 0, 1) := by decide +kernel
theorem dX7_readsHead_167 : decode cX7_readsHead 167 = .ok (.lload 4, 2) := by decide +kernel
theorem dX7_readsHead_169 : decode cX7_readsHead 169 = .ok (.l2i, 1) := by decide +kernel
theorem dX7_readsHead_170 : decode cX7_readsHead 170 = .ok (.iload_n 3, 1) := by decide +kernel
theorem dX7_readsHead_171 : decode cX7_readsHead 171 = .ok (.ifCond .ne 12, 3) := by decide +kernel
theorem dX7_readsHead_174 : decode cX7_readsHead 174 = .ok (.lload 4, 2) := by decide +kernel
theorem dX7_readsHead_176 : decode cX7_readsHead 176 = .ok (.ldc2_w 148, 3) := by decide +kernel
theorem dX7_readsHead_179 : decode cX7_readsHead 179 = .ok (.lcmp, 1) := by decide +kernel
theorem dX7_readsHead_180 : decode cX7_readsHead 180 = .ok (.ifCond .lt 7, 3) := by decide +kernel
theorem dX7_readsHead_183 : decode cX7_readsHead 183 = .ok (.iconst 1, 1) := by decide +kernel
theorem dX7_readsHead_184 : decode cX7_readsHead 184 = .ok (.goto 4, 3) := by decide +kernel
theorem dX7_readsHead_187 : decode cX7_readsHead 187 = .ok (.iconst 0, 1) := by decide +kernel
theorem dX7_readsHead_188 : decode cX7_readsHead 188 = .ok (.invokevirtual 208, 3) := by decide +kernel
theorem dX7_readsHead_191 : decode cX7_readsHead 191 = .ok (.ifCond .eq 7, 3) := by decide +kernel
theorem dX7_readsHead_194 : decode cX7_readsHead 194 = .ok (.iconst 1, 1) := by decide +kernel
theorem dX7_readsHead_195 : decode cX7_readsHead 195 = .ok (.goto 4, 3) := by decide +kernel
theorem dX7_readsHead_198 : decode cX7_readsHead 198 = .ok (.iconst 0, 1) := by decide +kernel
theorem dX7_readsHead_199 : decode cX7_readsHead 199 = .ok (.ireturn, 1) := by decide +kernel
set_option maxRecDepth 20000 in
theorem ggX7_readsKeys_X7_are : GoodIn wsX7_readsKeys wsX7_are := goodIn_r _ [9, 3, 10, 11, 12, 13, 8, 14, 15, 16, 22, 23, 24, 25, 26, 27, 28, 29, 30, 31, 32, 33, 34, 35, 36, 37] rfl (by decide +kernel)
set_option maxRecDepth 20000 in
theorem gX7_readsKeys_X7_are : GoodIn wsX7_readsKeys (wsV RX7 189 RX7 yX7_are wsX7_are) := goodIn_app (goodIn_of _ (by decide +kernel)) ggX7_readsKeys_X7_are
set_option maxRecDepth 20000 in
theorem ggX7_readsKeys_X7_taken : GoodIn wsX7_readsKeys wsX7_taken := goodIn_r _ [20, 21, 3, 22, 23, 24, 25, 26, 27, 28, 29, 30, 31, 32, 33, 34, 35, 36, 37] rfl (by decide +kernel)
set_option maxRecDepth 20000 in
theorem gX7_readsKeys_X7_taken : GoodIn wsX7_readsKeys (wsV RX7 192 RX7 yX7_taken wsX7_taken) := goodIn_app (goodIn_of _ (by decide +kernel)) ggX7_readsKeys_X7_taken
set_option maxRecDepth 20000 in
theorem ggX7_readsKeys_X7_fails : GoodIn wsX7_readsKeys wsX7_fails := goodIn_r _ [14, 15, 16, 22, 23, 24, 25, 26, 27, 28, 29, 30, 31, 32, 33, 34, 35, 36, 37] rfl (by decide +kernel)
set_option maxRecDepth 20000 in
theorem gX7_readsKeys_X7_fails : GoodIn wsX7_readsKeys (wsV RX7 186 RX7 yX7_fails wsX7_fails) := goodIn_app (goodIn_of _ (by decide +kernel)) ggX7_readsKeys_X7_fails
theorem dX7_readsKeys_0 : decode cX7_readsKeys 0 = .ok (.aload_n 0, 1) := by decide +kernel
theorem dX7_readsKeys_1 : decode cX7_readsKeys 1 = .ok (.getfield 7, 3) := by decide +kernel
theorem dX7_readsKeys_4 : decode cX7_readsKeys 4 = .ok (.bipush 16, 2) := by decide +kernel
theorem dX7_readsKeys_6 : decode cX7_readsKeys 6 = .ok (.iload_n 1, 1) := by decide +kernel
theorem dX7_readsKeys_7 : decode cX7_readsKeys 7 = .ok (.iastore, 1) := by decide +kernel
theorem dX7_readsKeys_8 : decode cX7_readsKeys 8 = .ok (.iconst 0, 1) := by decide +kernel
theorem dX7_readsKeys_9 : decode cX7_readsKeys 9 = .ok (.istore_n 2, 1) := by decide +kernel
theorem dX7_readsKeys_10 : decode cX7_readsKeys 10 = .ok (.iload_n 2, 1) := by decide +kernel
theorem dX7_readsKeys_11 : decode cX7_readsKeys 11 = .ok (.iload_n 1, 1) := by decide +kernel
theorem dX7_readsKeys_12 : decode cX7_readsKeys 12 = .ok (.if_icmp .ge 93, 3) := by decide +kernel
theorem dX7_readsKeys_15 : decode cX7_readsKeys 15 = .ok (.aload_n 0, 1) := by decide +kernel
theorem dX7_readsKeys_16 : decode cX7_readsKeys 16 = .ok (.iconst 2, 1) := by decide +kernel
theorem dX7_readsKeys_17 : decode cX7_readsKeys 17 = .ok (.invokevirtual 189, 3) := by decide +kernel
theorem dX7_readsKeys_20 : decode cX7_readsKeys 20 = .ok (.ifCond .ne 5, 3) := by decide +kernel
theorem dX7_readsKeys_23 : decode cX7_readsKeys 23 = .ok (.iconst 0, 1) := by decide +kernel
theorem dX7_readsKeys_24 : decode cX7_readsKeys 24 = .ok (.ireturn, 1) := by decide +kernel
theorem dX7_readsKeys_25 : decode cX7_readsKeys 25 = .ok (.bipush 96, 2) := by decide +kernel
theorem dX7_readsKeys_27 : decode cX7_readsKeys 27 = .ok (.iload_n 2, 1) := by decide +kernel
theorem dX7_readsKeys_28 : decode cX7_readsKeys 28 = .ok (.iadd, 1) := by decide +kernel
theorem dX7_readsKeys_29 : decode cX7_readsKeys 29 = .ok (.istore_n 3, 1) := by decide +kernel
theorem dX7_readsKeys_30 : decode cX7_readsKeys 30 = .ok (.aload_n 0, 1) := by decide +kernel
theorem dX7_readsKeys_31 : decode cX7_readsKeys 31 = .ok (.getfield 13, 3) := by decide +kernel
theorem dX7_readsKeys_34 : decode cX7_readsKeys 34 = .ok (.iload_n 3, 1) := by decide +kernel
theorem dX7_readsKeys_35 : decode cX7_readsKeys 35 = .ok (.aload_n 0, 1) := by decide +kernel
theorem dX7_readsKeys_36 : decode cX7_readsKeys 36 = .ok (.iconst 2, 1) := by decide +kernel
theorem dX7_readsKeys_37 : decode cX7_readsKeys 37 = .ok (.invokevirtual 192, 3) := by decide +kernel
theorem dX7_readsKeys_40 : decode cX7_readsKeys 40 = .ok (.l2i, 1) := by decide +kernel
theorem dX7_readsKeys_41 : decode cX7_readsKeys 41 = .ok (.iastore, 1) := by decide +kernel
theorem dX7_readsKeys_42 : decode cX7_readsKeys 42 = .ok (.iload_n 2, 1) := by decide +kernel
theorem dX7_readsKeys_43 : decode cX7_readsKeys 43 = .ok (.ifCond .le 32, 3) := by decide +kernel
theorem dX7_readsKeys_46 : decode cX7_readsKeys 46 = .ok (.aload_n 0, 1) := by decide +kernel
theorem dX7_readsKeys_47 : decode cX7_readsKeys 47 = .ok (.getfield 13, 3) := by decide +kernel
theorem dX7_readsKeys_50 : decode cX7_readsKeys 50 = .ok (.iload_n 3, 1) := by decide +kernel
theorem dX7_readsKeys_51 : decode cX7_readsKeys 51 = .ok (.iaload, 1) := by decide +kernel
theorem dX7_readsKeys_52 : decode cX7_readsKeys 52 = .ok (.aload_n 0, 1) := by decide +kernel
theorem dX7_readsKeys_53 : decode cX7_readsKeys 53 = .ok (.getfield 13, 3) := by decide +kernel
theorem dX7_readsKeys_56 : decode cX7_readsKeys 56 = .ok (.iload_n 3, 1) := by decide +kernel
theorem dX7_readsKeys_57 : decode cX7_readsKeys 57 = .ok (.iconst 1, 1) := by decide +kernel
theorem dX7_readsKeys_58 : decode cX7_readsKeys 58 = .ok (.isub, 1) := by decide +kernel
theorem dX7_readsKeys_59 : decode cX7_readsKeys 59 = .ok (.iaload, 1) := by decide +kernel
theorem dX7_readsKeys_60 : decode cX7_readsKeys 60 = .ok (.if_icmp .gt 15, 3) := by decide +kernel
theorem dX7_readsKeys_63 : decode cX7_readsKeys 63 = .ok (.aload_n 0, 1) := by decide +kernel
theorem dX7_readsKeys_64 : decode cX7_readsKeys 64 = .ok (.iconst 5, 1) := by decide +kernel
theorem dX7_readsKeys_65 : decode cX7_readsKeys 65 = .ok (.aload_n 0, 1) := by decide +kernel
theorem dX7_readsKeys_66 : decode cX7_readsKeys 66 = .ok (.getfield 183, 3) := by decide +kernel
theorem dX7_readsKeys_69 : decode cX7_readsKeys 69 = .ok (.iconst 2, 1) := by decide +kernel
theorem dX7_readsKeys_70 : decode cX7_readsKeys 70 = .ok (.isub, 1) := by decide +kernel
theorem dX7_readsKeys_71 : decode cX7_readsKeys 71 = .ok (.invokevirtual 186, 3) := by decide +kernel
theorem dX7_readsKeys_74 : decode cX7_readsKeys 74 = .ok (.ireturn, 1) := by decide +kernel
theorem dX7_readsKeys_75 : decode cX7_readsKeys 75 = .ok (.aload_n 0, 1) := by decide +kernel
theorem dX7_readsKeys_76 : decode cX7_readsKeys 76 = .ok (.iconst 2, 1) := by decide +kernel
theorem dX7_readsKeys_77 : decode cX7_readsKeys 77 = .ok (.invokevirtual 189, 3) := by decide +kernel
theorem dX7_readsKeys_80 : decode cX7_readsKeys 80 = .ok (.ifCond .ne 5, 3) := by decide +kernel
theorem dX7_readsKeys_83 : decode cX7_readsKeys 83 = .ok (.iconst 0, 1) := by decide +kernel
theorem dX7_readsKeys_84 : decode cX7_readsKeys 84 = .ok (.ireturn, 1) := by decide +kernel
theorem dX7_readsKeys_85 : decode cX7_readsKeys 85 = .ok (.aload_n 0, 1) := by decide +kernel
theorem dX7_readsKeys_86 : decode cX7_readsKeys 86 = .ok (.getfield 41, 3) := by decide +kernel
theorem dX7_readsKeys_89 : decode cX7_readsKeys 89 = .ok (.iload_n 2, 1) := by decide +kernel
theorem dX7_readsKeys_90 : decode cX7_readsKeys 90 = .ok (.aload_n 0, 1) := by decide +kernel
theorem dX7_readsKeys_91 : decode cX7_readsKeys 91 = .ok (.iconst 2, 1) := by decide +kernel
theorem dX7_readsKeys_92 : decode cX7_readsKeys 92 = .ok (.invokevirtual 192, 3) := by decide +kernel
theorem dX7_readsKeys_95 : decode cX7_readsKeys 95 = .ok (.l2i, 1) := by decide +kernel
theorem dX7_readsKeys_96 : decode cX7_readsKeys 96 = .ok (.iconst 1, 1) := by decide +kernel
theorem dX7_readsKeys_97 : decode cX7_readsKeys 97 = .ok (.iadd, 1) := by decide +kernel
theorem dX7_readsKeys_98 : decode cX7_readsKeys 98 = .ok (.iastore, 1) := by decide +kernel
theorem dX7_readsKeys_99 : decode cX7_readsKeys 99 = .ok (.iinc 2 1, 3) := by decide +kernel
theorem dX7_readsKeys_102 : decode cX7_readsKeys 102 = .ok (.goto (-92), 3) := by decide +kernel
theorem dX7_readsKeys_105 : decode cX7_readsKeys 105 = .ok (.iconst 1, 1) := by decide +kernel
theorem dX7_readsKeys_106 : decode cX7_readsKeys 106 = .ok (.ireturn, 1) := by decide +kernel
set_option maxRecDepth 20000 in
theorem ggX7_readsPlaces_X7_are : GoodIn wsX7_readsPlaces wsX7_are := goodIn_r _ [9, 4, 10, 11, 12, 13, 8, 14, 15, 16, 22, 23, 24, 25, 26, 27, 28, 29, 30, 31, 32, 33, 34, 35, 36, 37] rfl (by decide +kernel)
set_option maxRecDepth 20000 in
theorem gX7_readsPlaces_X7_are : GoodIn wsX7_readsPlaces (wsV RX7 189 RX7 yX7_are wsX7_are) := goodIn_app (goodIn_of _ (by decide +kernel)) ggX7_readsPlaces_X7_are
set_option maxRecDepth 20000 in
theorem ggX7_readsPlaces_X7_taken : GoodIn wsX7_readsPlaces wsX7_taken := goodIn_r _ [20, 21, 4, 22, 23, 24, 25, 26, 27, 28, 29, 30, 31, 32, 33, 34, 35, 36, 37] rfl (by decide +kernel)
set_option maxRecDepth 20000 in
theorem gX7_readsPlaces_X7_taken : GoodIn wsX7_readsPlaces (wsV RX7 192 RX7 yX7_taken wsX7_taken) := goodIn_app (goodIn_of _ (by decide +kernel)) ggX7_readsPlaces_X7_taken
theorem dX7_readsPlaces_0 : decode cX7_readsPlaces 0 = .ok (.iconst 0, 1) := by decide +kernel
theorem dX7_readsPlaces_1 : decode cX7_readsPlaces 1 = .ok (.istore_n 3, 1) := by decide +kernel
theorem dX7_readsPlaces_2 : decode cX7_readsPlaces 2 = .ok (.iload_n 3, 1) := by decide +kernel
theorem dX7_readsPlaces_3 : decode cX7_readsPlaces 3 = .ok (.iload_n 1, 1) := by decide +kernel
theorem dX7_readsPlaces_4 : decode cX7_readsPlaces 4 = .ok (.if_icmp .ge 53, 3) := by decide +kernel
theorem dX7_readsPlaces_7 : decode cX7_readsPlaces 7 = .ok (.aload_n 0, 1) := by decide +kernel
theorem dX7_readsPlaces_8 : decode cX7_readsPlaces 8 = .ok (.getfield 38, 3) := by decide +kernel
theorem dX7_readsPlaces_11 : decode cX7_readsPlaces 11 = .ok (.iload_n 3, 1) := by decide +kernel
theorem dX7_readsPlaces_12 : decode cX7_readsPlaces 12 = .ok (.ldc2_w 52, 3) := by decide +kernel
theorem dX7_readsPlaces_15 : decode cX7_readsPlaces 15 = .ok (.lastore, 1) := by decide +kernel
theorem dX7_readsPlaces_16 : decode cX7_readsPlaces 16 = .ok (.iload_n 2, 1) := by decide +kernel
theorem dX7_readsPlaces_17 : decode cX7_readsPlaces 17 = .ok (.ifCond .eq 34, 3) := by decide +kernel
theorem dX7_readsPlaces_20 : decode cX7_readsPlaces 20 = .ok (.aload_n 0, 1) := by decide +kernel
theorem dX7_readsPlaces_21 : decode cX7_readsPlaces 21 = .ok (.iconst 4, 1) := by decide +kernel
theorem dX7_readsPlaces_22 : decode cX7_readsPlaces 22 = .ok (.invokevirtual 189, 3) := by decide +kernel
theorem dX7_readsPlaces_25 : decode cX7_readsPlaces 25 = .ok (.ifCond .ne 5, 3) := by decide +kernel
theorem dX7_readsPlaces_28 : decode cX7_readsPlaces 28 = .ok (.iconst 0, 1) := by decide +kernel
theorem dX7_readsPlaces_29 : decode cX7_readsPlaces 29 = .ok (.ireturn, 1) := by decide +kernel
theorem dX7_readsPlaces_30 : decode cX7_readsPlaces 30 = .ok (.aload_n 0, 1) := by decide +kernel
theorem dX7_readsPlaces_31 : decode cX7_readsPlaces 31 = .ok (.getfield 35, 3) := by decide +kernel
theorem dX7_readsPlaces_34 : decode cX7_readsPlaces 34 = .ok (.iload_n 3, 1) := by decide +kernel
theorem dX7_readsPlaces_35 : decode cX7_readsPlaces 35 = .ok (.aload_n 0, 1) := by decide +kernel
theorem dX7_readsPlaces_36 : decode cX7_readsPlaces 36 = .ok (.getfield 183, 3) := by decide +kernel
theorem dX7_readsPlaces_39 : decode cX7_readsPlaces 39 = .ok (.iastore, 1) := by decide +kernel
theorem dX7_readsPlaces_40 : decode cX7_readsPlaces 40 = .ok (.aload_n 0, 1) := by decide +kernel
theorem dX7_readsPlaces_41 : decode cX7_readsPlaces 41 = .ok (.getfield 38, 3) := by decide +kernel
theorem dX7_readsPlaces_44 : decode cX7_readsPlaces 44 = .ok (.iload_n 3, 1) := by decide +kernel
theorem dX7_readsPlaces_45 : decode cX7_readsPlaces 45 = .ok (.aload_n 0, 1) := by decide +kernel
theorem dX7_readsPlaces_46 : decode cX7_readsPlaces 46 = .ok (.iconst 4, 1) := by decide +kernel
theorem dX7_readsPlaces_47 : decode cX7_readsPlaces 47 = .ok (.invokevirtual 192, 3) := by decide +kernel
theorem dX7_readsPlaces_50 : decode cX7_readsPlaces 50 = .ok (.lastore, 1) := by decide +kernel
theorem dX7_readsPlaces_51 : decode cX7_readsPlaces 51 = .ok (.iinc 3 1, 3) := by decide +kernel
theorem dX7_readsPlaces_54 : decode cX7_readsPlaces 54 = .ok (.goto (-52), 3) := by decide +kernel
theorem dX7_readsPlaces_57 : decode cX7_readsPlaces 57 = .ok (.iconst 1, 1) := by decide +kernel
theorem dX7_readsPlaces_58 : decode cX7_readsPlaces 58 = .ok (.ireturn, 1) := by decide +kernel
set_option maxRecDepth 20000 in
theorem ggX7_readsArray_X7_are : GoodIn wsX7_readsArray wsX7_are := goodIn_r _ [7, 1, 8, 9, 10, 11, 6, 12, 13, 14, 25, 26, 27, 28, 29, 30, 31, 32, 33, 34, 35, 36, 37, 38, 39, 40] rfl (by decide +kernel)
set_option maxRecDepth 20000 in
theorem gX7_readsArray_X7_are : GoodIn wsX7_readsArray (wsV RX7 189 RX7 yX7_are wsX7_are) := goodIn_app (goodIn_of _ (by decide +kernel)) ggX7_readsArray_X7_are
set_option maxRecDepth 20000 in
theorem ggX7_readsArray_X7_taken : GoodIn wsX7_readsArray wsX7_taken := goodIn_r _ [18, 19, 1, 25, 26, 27, 28, 29, 30, 31, 32, 33, 34, 35, 36, 37, 38, 39, 40] rfl (by decide +kernel)
set_option maxRecDepth 20000 in
theorem gX7_readsArray_X7_taken : GoodIn wsX7_readsArray (wsV RX7 192 RX7 yX7_taken wsX7_taken) := goodIn_app (goodIn_of _ (by decide +kernel)) ggX7_readsArray_X7_taken
set_option maxRecDepth 20000 in
theorem ggX7_readsArray_X7_fails : GoodIn wsX7_readsArray wsX7_fails := goodIn_r _ [12, 13, 14, 25, 26, 27, 28, 29, 30, 31, 32, 33, 34, 35, 36, 37, 38, 39, 40] rfl (by decide +kernel)
set_option maxRecDepth 20000 in
theorem gX7_readsArray_X7_fails : GoodIn wsX7_readsArray (wsV RX7 186 RX7 yX7_fails wsX7_fails) := goodIn_app (goodIn_of _ (by decide +kernel)) ggX7_readsArray_X7_fails
set_option maxRecDepth 20000 in
theorem ggX7_readsArray_X7_turn : GoodIn wsX7_readsArray wsX7_turn := goodIn_r _ [23, 24, 25, 26, 27, 28, 29, 30, 31, 32, 33, 34, 35, 36, 37, 38, 39, 40] rfl (by decide +kernel)
set_option maxRecDepth 20000 in
theorem gX7_readsArray_X7_turn : GoodIn wsX7_readsArray (wsV RX7 82 RX7 yX7_turn wsX7_turn) := goodIn_app (goodIn_of _ (by decide +kernel)) ggX7_readsArray_X7_turn
theorem dX7_readsArray_0 : decode cX7_readsArray 0 = .ok (.iconst (-1), 1) := by decide +kernel
theorem dX7_readsArray_1 : decode cX7_readsArray 1 = .ok (.istore_n 3, 1) := by decide +kernel
theorem dX7_readsArray_2 : decode cX7_readsArray 2 = .ok (.iconst 0, 1) := by decide +kernel
theorem dX7_readsArray_3 : decode cX7_readsArray 3 = .ok (.istore 4, 2) := by decide +kernel
theorem dX7_readsArray_5 : decode cX7_readsArray 5 = .ok (.iload 4, 2) := by decide +kernel
theorem dX7_readsArray_7 : decode cX7_readsArray 7 = .ok (.iload_n 2, 1) := by decide +kernel
theorem dX7_readsArray_8 : decode cX7_readsArray 8 = .ok (.if_icmp .ge 56, 3) := by decide +kernel
theorem dX7_readsArray_11 : decode cX7_readsArray 11 = .ok (.aload_n 0, 1) := by decide +kernel
theorem dX7_readsArray_12 : decode cX7_readsArray 12 = .ok (.iconst 2, 1) := by decide +kernel
theorem dX7_readsArray_13 : decode cX7_readsArray 13 = .ok (.invokevirtual 189, 3) := by decide +kernel
theorem dX7_readsArray_16 : decode cX7_readsArray 16 = .ok (.ifCond .ne 5, 3) := by decide +kernel
theorem dX7_readsArray_19 : decode cX7_readsArray 19 = .ok (.iconst 0, 1) := by decide +kernel
theorem dX7_readsArray_20 : decode cX7_readsArray 20 = .ok (.ireturn, 1) := by decide +kernel
theorem dX7_readsArray_21 : decode cX7_readsArray 21 = .ok (.aload_n 0, 1) := by decide +kernel
theorem dX7_readsArray_22 : decode cX7_readsArray 22 = .ok (.iconst 2, 1) := by decide +kernel
theorem dX7_readsArray_23 : decode cX7_readsArray 23 = .ok (.invokevirtual 192, 3) := by decide +kernel
theorem dX7_readsArray_26 : decode cX7_readsArray 26 = .ok (.l2i, 1) := by decide +kernel
theorem dX7_readsArray_27 : decode cX7_readsArray 27 = .ok (.istore 5, 2) := by decide +kernel
theorem dX7_readsArray_29 : decode cX7_readsArray 29 = .ok (.iload 5, 2) := by decide +kernel
theorem dX7_readsArray_31 : decode cX7_readsArray 31 = .ok (.iload_n 3, 1) := by decide +kernel
theorem dX7_readsArray_32 : decode cX7_readsArray 32 = .ok (.if_icmp .gt 16, 3) := by decide +kernel
theorem dX7_readsArray_35 : decode cX7_readsArray 35 = .ok (.aload_n 0, 1) := by decide +kernel
theorem dX7_readsArray_36 : decode cX7_readsArray 36 = .ok (.bipush 7, 2) := by decide +kernel
theorem dX7_readsArray_38 : decode cX7_readsArray 38 = .ok (.aload_n 0, 1) := by decide +kernel
theorem dX7_readsArray_39 : decode cX7_readsArray 39 = .ok (.getfield 183, 3) := by decide +kernel
theorem dX7_readsArray_42 : decode cX7_readsArray 42 = .ok (.iconst 2, 1) := by decide +kernel
theorem dX7_readsArray_43 : decode cX7_readsArray 43 = .ok (.isub, 1) := by decide +kernel
theorem dX7_readsArray_44 : decode cX7_readsArray 44 = .ok (.invokevirtual 186, 3) := by decide +kernel
theorem dX7_readsArray_47 : decode cX7_readsArray 47 = .ok (.ireturn, 1) := by decide +kernel
theorem dX7_readsArray_48 : decode cX7_readsArray 48 = .ok (.iload 5, 2) := by decide +kernel
theorem dX7_readsArray_50 : decode cX7_readsArray 50 = .ok (.istore_n 3, 1) := by decide +kernel
theorem dX7_readsArray_51 : decode cX7_readsArray 51 = .ok (.aload_n 0, 1) := by decide +kernel
theorem dX7_readsArray_52 : decode cX7_readsArray 52 = .ok (.iload_n 1, 1) := by decide +kernel
theorem dX7_readsArray_53 : decode cX7_readsArray 53 = .ok (.iload 5, 2) := by decide +kernel
theorem dX7_readsArray_55 : decode cX7_readsArray 55 = .ok (.invokevirtual 82, 3) := by decide +kernel
theorem dX7_readsArray_58 : decode cX7_readsArray 58 = .ok (.iinc 4 1, 3) := by decide +kernel
theorem dX7_readsArray_61 : decode cX7_readsArray 61 = .ok (.goto (-56), 3) := by decide +kernel
theorem dX7_readsArray_64 : decode cX7_readsArray 64 = .ok (.aload_n 0, 1) := by decide +kernel
theorem dX7_readsArray_65 : decode cX7_readsArray 65 = .ok (.getfield 19, 3) := by decide +kernel
theorem dX7_readsArray_68 : decode cX7_readsArray 68 = .ok (.iload_n 1, 1) := by decide +kernel
theorem dX7_readsArray_69 : decode cX7_readsArray 69 = .ok (.iload_n 2, 1) := by decide +kernel
theorem dX7_readsArray_70 : decode cX7_readsArray 70 = .ok (.iastore, 1) := by decide +kernel
theorem dX7_readsArray_71 : decode cX7_readsArray 71 = .ok (.iconst 1, 1) := by decide +kernel
theorem dX7_readsArray_72 : decode cX7_readsArray 72 = .ok (.ireturn, 1) := by decide +kernel
set_option maxRecDepth 20000 in
theorem ggX7_readsBitmap_X7_are : GoodIn wsX7_readsBitmap wsX7_are := goodIn_r _ [8, 3, 9, 10, 11, 12, 7, 13, 14, 15, 24, 25, 26, 27, 28, 29, 30, 31, 32, 33, 34, 35, 36, 37, 38, 39] rfl (by decide +kernel)
set_option maxRecDepth 20000 in
theorem gX7_readsBitmap_X7_are : GoodIn wsX7_readsBitmap (wsV RX7 189 RX7 yX7_are wsX7_are) := goodIn_app (goodIn_of _ (by decide +kernel)) ggX7_readsBitmap_X7_are
set_option maxRecDepth 20000 in
theorem ggX7_readsBitmap_X7_taken : GoodIn wsX7_readsBitmap wsX7_taken := goodIn_r _ [19, 20, 3, 24, 25, 26, 27, 28, 29, 30, 31, 32, 33, 34, 35, 36, 37, 38, 39] rfl (by decide +kernel)
set_option maxRecDepth 20000 in
theorem gX7_readsBitmap_X7_taken : GoodIn wsX7_readsBitmap (wsV RX7 192 RX7 yX7_taken wsX7_taken) := goodIn_app (goodIn_of _ (by decide +kernel)) ggX7_readsBitmap_X7_taken
set_option maxRecDepth 20000 in
theorem ggX7_readsBitmap_X7_bitsOf : GoodIn wsX7_readsBitmap wsX7_bitsOf := goodIn_r _ [23] rfl (by decide +kernel)
set_option maxRecDepth 20000 in
theorem gX7_readsBitmap_X7_bitsOf : GoodIn wsX7_readsBitmap (va_wsS RX7 54 yX7_bitsOf wsX7_bitsOf) := goodIn_app (goodIn_of _ (by decide +kernel)) ggX7_readsBitmap_X7_bitsOf
set_option maxRecDepth 20000 in
theorem ggX7_readsBitmap_X7_fails : GoodIn wsX7_readsBitmap wsX7_fails := goodIn_r _ [13, 14, 15, 24, 25, 26, 27, 28, 29, 30, 31, 32, 33, 34, 35, 36, 37, 38, 39] rfl (by decide +kernel)
set_option maxRecDepth 20000 in
theorem gX7_readsBitmap_X7_fails : GoodIn wsX7_readsBitmap (wsV RX7 186 RX7 yX7_fails wsX7_fails) := goodIn_app (goodIn_of _ (by decide +kernel)) ggX7_readsBitmap_X7_fails
theorem dX7_readsBitmap_0 : decode cX7_readsBitmap 0 = .ok (.aload_n 0, 1) := by decide +kernel
theorem dX7_readsBitmap_1 : decode cX7_readsBitmap 1 = .ok (.sipush 8192, 3) := by decide +kernel
theorem dX7_readsBitmap_4 : decode cX7_readsBitmap 4 = .ok (.invokevirtual 189, 3) := by decide +kernel
theorem dX7_readsBitmap_7 : decode cX7_readsBitmap 7 = .ok (.ifCond .ne 5, 3) := by decide +kernel
theorem dX7_readsBitmap_10 : decode cX7_readsBitmap 10 = .ok (.iconst 0, 1) := by decide +kernel
theorem dX7_readsBitmap_11 : decode cX7_readsBitmap 11 = .ok (.ireturn, 1) := by decide +kernel
theorem dX7_readsBitmap_12 : decode cX7_readsBitmap 12 = .ok (.iconst 0, 1) := by decide +kernel
theorem dX7_readsBitmap_13 : decode cX7_readsBitmap 13 = .ok (.istore_n 3, 1) := by decide +kernel
theorem dX7_readsBitmap_14 : decode cX7_readsBitmap 14 = .ok (.iload_n 3, 1) := by decide +kernel
theorem dX7_readsBitmap_15 : decode cX7_readsBitmap 15 = .ok (.sipush 1024, 3) := by decide +kernel
theorem dX7_readsBitmap_18 : decode cX7_readsBitmap 18 = .ok (.if_icmp .ge 63, 3) := by decide +kernel
theorem dX7_readsBitmap_21 : decode cX7_readsBitmap 21 = .ok (.aload_n 0, 1) := by decide +kernel
theorem dX7_readsBitmap_22 : decode cX7_readsBitmap 22 = .ok (.iconst 4, 1) := by decide +kernel
theorem dX7_readsBitmap_23 : decode cX7_readsBitmap 23 = .ok (.invokevirtual 192, 3) := by decide +kernel
theorem dX7_readsBitmap_26 : decode cX7_readsBitmap 26 = .ok (.lstore 4, 2) := by decide +kernel
theorem dX7_readsBitmap_28 : decode cX7_readsBitmap 28 = .ok (.aload_n 0, 1) := by decide +kernel
theorem dX7_readsBitmap_29 : decode cX7_readsBitmap 29 = .ok (.getfield 23, 3) := by decide +kernel
theorem dX7_readsBitmap_32 : decode cX7_readsBitmap 32 = .ok (.sipush 1024, 3) := by decide +kernel
theorem dX7_readsBitmap_35 : decode cX7_readsBitmap 35 = .ok (.iload_n 1, 1) := by decide +kernel
theorem dX7_readsBitmap_36 : decode cX7_readsBitmap 36 = .ok (.imul, 1) := by decide +kernel
theorem dX7_readsBitmap_37 : decode cX7_readsBitmap 37 = .ok (.iload_n 3, 1) := by decide +kernel
theorem dX7_readsBitmap_38 : decode cX7_readsBitmap 38 = .ok (.iadd, 1) := by decide +kernel
theorem dX7_readsBitmap_39 : decode cX7_readsBitmap 39 = .ok (.lload 4, 2) := by decide +kernel
theorem dX7_readsBitmap_41 : decode cX7_readsBitmap 41 = .ok (.aload_n 0, 1) := by decide +kernel
theorem dX7_readsBitmap_42 : decode cX7_readsBitmap 42 = .ok (.iconst 4, 1) := by decide +kernel
theorem dX7_readsBitmap_43 : decode cX7_readsBitmap 43 = .ok (.invokevirtual 192, 3) := by decide +kernel
theorem dX7_readsBitmap_46 : decode cX7_readsBitmap 46 = .ok (.bipush 32, 2) := by decide +kernel
theorem dX7_readsBitmap_48 : decode cX7_readsBitmap 48 = .ok (.lshl, 1) := by decide +kernel
theorem dX7_readsBitmap_49 : decode cX7_readsBitmap 49 = .ok (.lor, 1) := by decide +kernel
theorem dX7_readsBitmap_50 : decode cX7_readsBitmap 50 = .ok (.lastore, 1) := by decide +kernel
theorem dX7_readsBitmap_51 : decode cX7_readsBitmap 51 = .ok (.aload_n 0, 1) := by decide +kernel
theorem dX7_readsBitmap_52 : decode cX7_readsBitmap 52 = .ok (.getfield 19, 3) := by decide +kernel
theorem dX7_readsBitmap_55 : decode cX7_readsBitmap 55 = .ok (.iload_n 1, 1) := by decide +kernel
theorem dX7_readsBitmap_56 : decode cX7_readsBitmap 56 = .ok (.dup2, 1) := by decide +kernel
theorem dX7_readsBitmap_57 : decode cX7_readsBitmap 57 = .ok (.iaload, 1) := by decide +kernel
theorem dX7_readsBitmap_58 : decode cX7_readsBitmap 58 = .ok (.aload_n 0, 1) := by decide +kernel
theorem dX7_readsBitmap_59 : decode cX7_readsBitmap 59 = .ok (.getfield 23, 3) := by decide +kernel
theorem dX7_readsBitmap_62 : decode cX7_readsBitmap 62 = .ok (.sipush 1024, 3) := by decide +kernel
theorem dX7_readsBitmap_65 : decode cX7_readsBitmap 65 = .ok (.iload_n 1, 1) := by decide +kernel
theorem dX7_readsBitmap_66 : decode cX7_readsBitmap 66 = .ok (.imul, 1) := by decide +kernel
theorem dX7_readsBitmap_67 : decode cX7_readsBitmap 67 = .ok (.iload_n 3, 1) := by decide +kernel
theorem dX7_readsBitmap_68 : decode cX7_readsBitmap 68 = .ok (.iadd, 1) := by decide +kernel
theorem dX7_readsBitmap_69 : decode cX7_readsBitmap 69 = .ok (.laload, 1) := by decide +kernel
theorem dX7_readsBitmap_70 : decode cX7_readsBitmap 70 = .ok (.invokestatic 54, 3) := by decide +kernel
theorem dX7_readsBitmap_73 : decode cX7_readsBitmap 73 = .ok (.iadd, 1) := by decide +kernel
theorem dX7_readsBitmap_74 : decode cX7_readsBitmap 74 = .ok (.iastore, 1) := by decide +kernel
theorem dX7_readsBitmap_75 : decode cX7_readsBitmap 75 = .ok (.iinc 3 1, 3) := by decide +kernel
theorem dX7_readsBitmap_78 : decode cX7_readsBitmap 78 = .ok (.goto (-64), 3) := by decide +kernel
theorem dX7_readsBitmap_81 : decode cX7_readsBitmap 81 = .ok (.aload_n 0, 1) := by decide +kernel
theorem dX7_readsBitmap_82 : decode cX7_readsBitmap 82 = .ok (.getfield 19, 3) := by decide +kernel
theorem dX7_readsBitmap_85 : decode cX7_readsBitmap 85 = .ok (.iload_n 1, 1) := by decide +kernel
theorem dX7_readsBitmap_86 : decode cX7_readsBitmap 86 = .ok (.iaload, 1) := by decide +kernel
theorem dX7_readsBitmap_87 : decode cX7_readsBitmap 87 = .ok (.iload_n 2, 1) := by decide +kernel
theorem dX7_readsBitmap_88 : decode cX7_readsBitmap 88 = .ok (.if_icmp .eq 16, 3) := by decide +kernel
theorem dX7_readsBitmap_91 : decode cX7_readsBitmap 91 = .ok (.aload_n 0, 1) := by decide +kernel
theorem dX7_readsBitmap_92 : decode cX7_readsBitmap 92 = .ok (.bipush 8, 2) := by decide +kernel
theorem dX7_readsBitmap_94 : decode cX7_readsBitmap 94 = .ok (.aload_n 0, 1) := by decide +kernel
theorem dX7_readsBitmap_95 : decode cX7_readsBitmap 95 = .ok (.getfield 183, 3) := by decide +kernel
theorem dX7_readsBitmap_98 : decode cX7_readsBitmap 98 = .ok (.invokevirtual 186, 3) := by decide +kernel
theorem dX7_readsBitmap_101 : decode cX7_readsBitmap 101 = .ok (.ifCond .eq 7, 3) := by decide +kernel
theorem dX7_readsBitmap_104 : decode cX7_readsBitmap 104 = .ok (.iconst 1, 1) := by decide +kernel
theorem dX7_readsBitmap_105 : decode cX7_readsBitmap 105 = .ok (.goto 4, 3) := by decide +kernel
theorem dX7_readsBitmap_108 : decode cX7_readsBitmap 108 = .ok (.iconst 0, 1) := by decide +kernel
theorem dX7_readsBitmap_109 : decode cX7_readsBitmap 109 = .ok (.ireturn, 1) := by decide +kernel
set_option maxRecDepth 20000 in
theorem ggX7_readsRuns_X7_are : GoodIn wsX7_readsRuns wsX7_are := goodIn_r _ [8, 2, 9, 10, 11, 12, 7, 13, 14, 15, 26, 27, 28, 29, 30, 31, 32, 33, 34, 35, 36, 37, 38, 39, 40, 41] rfl (by decide +kernel)
set_option maxRecDepth 20000 in
theorem gX7_readsRuns_X7_are : GoodIn wsX7_readsRuns (wsV RX7 189 RX7 yX7_are wsX7_are) := goodIn_app (goodIn_of _ (by decide +kernel)) ggX7_readsRuns_X7_are
set_option maxRecDepth 20000 in
theorem ggX7_readsRuns_X7_taken : GoodIn wsX7_readsRuns wsX7_taken := goodIn_r _ [19, 20, 2, 26, 27, 28, 29, 30, 31, 32, 33, 34, 35, 36, 37, 38, 39, 40, 41] rfl (by decide +kernel)
set_option maxRecDepth 20000 in
theorem gX7_readsRuns_X7_taken : GoodIn wsX7_readsRuns (wsV RX7 192 RX7 yX7_taken wsX7_taken) := goodIn_app (goodIn_of _ (by decide +kernel)) ggX7_readsRuns_X7_taken
set_option maxRecDepth 20000 in
theorem ggX7_readsRuns_X7_fails : GoodIn wsX7_readsRuns wsX7_fails := goodIn_r _ [13, 14, 15, 26, 27, 28, 29, 30, 31, 32, 33, 34, 35, 36, 37, 38, 39, 40, 41] rfl (by decide +kernel)
set_option maxRecDepth 20000 in
theorem gX7_readsRuns_X7_fails : GoodIn wsX7_readsRuns (wsV RX7 186 RX7 yX7_fails wsX7_fails) := goodIn_app (goodIn_of _ (by decide +kernel)) ggX7_readsRuns_X7_fails
set_option maxRecDepth 20000 in
theorem ggX7_readsRuns_X7_turn : GoodIn wsX7_readsRuns wsX7_turn := goodIn_r _ [24, 25, 26, 27, 28, 29, 30, 31, 32, 33, 34, 35, 36, 37, 38, 39, 40, 41] rfl (by decide +kernel)
set_option maxRecDepth 20000 in
theorem gX7_readsRuns_X7_turn : GoodIn wsX7_readsRuns (wsV RX7 82 RX7 yX7_turn wsX7_turn) := goodIn_app (goodIn_of _ (by decide +kernel)) ggX7_readsRuns_X7_turn
theorem dX7_readsRuns_0 : decode cX7_readsRuns 0 = .ok (.aload_n 0, 1) := by decide +kernel
theorem dX7_readsRuns_1 : decode cX7_readsRuns 1 = .ok (.iconst 2, 1) := by decide +kernel
theorem dX7_readsRuns_2 : decode cX7_readsRuns 2 = .ok (.invokevirtual 189, 3) := by decide +kernel
theorem dX7_readsRuns_5 : decode cX7_readsRuns 5 = .ok (.ifCond .ne 5, 3) := by decide +kernel
theorem dX7_readsRuns_8 : decode cX7_readsRuns 8 = .ok (.iconst 0, 1) := by decide +kernel
theorem dX7_readsRuns_9 : decode cX7_readsRuns 9 = .ok (.ireturn, 1) := by decide +kernel
theorem dX7_readsRuns_10 : decode cX7_readsRuns 10 = .ok (.aload_n 0, 1) := by decide +kernel
theorem dX7_readsRuns_11 : decode cX7_readsRuns 11 = .ok (.iconst 2, 1) := by decide +kernel
theorem dX7_readsRuns_12 : decode cX7_readsRuns 12 = .ok (.invokevirtual 192, 3) := by decide +kernel
theorem dX7_readsRuns_15 : decode cX7_readsRuns 15 = .ok (.l2i, 1) := by decide +kernel
theorem dX7_readsRuns_16 : decode cX7_readsRuns 16 = .ok (.istore_n 3, 1) := by decide +kernel
theorem dX7_readsRuns_17 : decode cX7_readsRuns 17 = .ok (.bipush (-2), 2) := by decide +kernel
theorem dX7_readsRuns_19 : decode cX7_readsRuns 19 = .ok (.istore 4, 2) := by decide +kernel
theorem dX7_readsRuns_21 : decode cX7_readsRuns 21 = .ok (.iconst 0, 1) := by decide +kernel
theorem dX7_readsRuns_22 : decode cX7_readsRuns 22 = .ok (.istore 5, 2) := by decide +kernel
theorem dX7_readsRuns_24 : decode cX7_readsRuns 24 = .ok (.iload 5, 2) := by decide +kernel
theorem dX7_readsRuns_26 : decode cX7_readsRuns 26 = .ok (.iload_n 3, 1) := by decide +kernel
theorem dX7_readsRuns_27 : decode cX7_readsRuns 27 = .ok (.if_icmp .ge 121, 3) := by decide +kernel
theorem dX7_readsRuns_30 : decode cX7_readsRuns 30 = .ok (.aload_n 0, 1) := by decide +kernel
theorem dX7_readsRuns_31 : decode cX7_readsRuns 31 = .ok (.iconst 2, 1) := by decide +kernel
theorem dX7_readsRuns_32 : decode cX7_readsRuns 32 = .ok (.invokevirtual 189, 3) := by decide +kernel
theorem dX7_readsRuns_35 : decode cX7_readsRuns 35 = .ok (.ifCond .ne 5, 3) := by decide +kernel
theorem dX7_readsRuns_38 : decode cX7_readsRuns 38 = .ok (.iconst 0, 1) := by decide +kernel
theorem dX7_readsRuns_39 : decode cX7_readsRuns 39 = .ok (.ireturn, 1) := by decide +kernel
theorem dX7_readsRuns_40 : decode cX7_readsRuns 40 = .ok (.aload_n 0, 1) := by decide +kernel
theorem dX7_readsRuns_41 : decode cX7_readsRuns 41 = .ok (.iconst 2, 1) := by decide +kernel
theorem dX7_readsRuns_42 : decode cX7_readsRuns 42 = .ok (.invokevirtual 192, 3) := by decide +kernel
theorem dX7_readsRuns_45 : decode cX7_readsRuns 45 = .ok (.l2i, 1) := by decide +kernel
theorem dX7_readsRuns_46 : decode cX7_readsRuns 46 = .ok (.istore 6, 2) := by decide +kernel
theorem dX7_readsRuns_48 : decode cX7_readsRuns 48 = .ok (.aload_n 0, 1) := by decide +kernel
theorem dX7_readsRuns_49 : decode cX7_readsRuns 49 = .ok (.iconst 2, 1) := by decide +kernel
theorem dX7_readsRuns_50 : decode cX7_readsRuns 50 = .ok (.invokevirtual 189, 3) := by decide +kernel
theorem dX7_readsRuns_53 : decode cX7_readsRuns 53 = .ok (.ifCond .ne 5, 3) := by decide +kernel
theorem dX7_readsRuns_56 : decode cX7_readsRuns 56 = .ok (.iconst 0, 1) := by decide +kernel
theorem dX7_readsRuns_57 : decode cX7_readsRuns 57 = .ok (.ireturn, 1) := by decide +kernel
theorem dX7_readsRuns_58 : decode cX7_readsRuns 58 = .ok (.iload 6, 2) := by decide +kernel
theorem dX7_readsRuns_60 : decode cX7_readsRuns 60 = .ok (.aload_n 0, 1) := by decide +kernel
theorem dX7_readsRuns_61 : decode cX7_readsRuns 61 = .ok (.iconst 2, 1) := by decide +kernel
theorem dX7_readsRuns_62 : decode cX7_readsRuns 62 = .ok (.invokevirtual 192, 3) := by decide +kernel
theorem dX7_readsRuns_65 : decode cX7_readsRuns 65 = .ok (.l2i, 1) := by decide +kernel
theorem dX7_readsRuns_66 : decode cX7_readsRuns 66 = .ok (.iadd, 1) := by decide +kernel
theorem dX7_readsRuns_67 : decode cX7_readsRuns 67 = .ok (.istore 7, 2) := by decide +kernel
theorem dX7_readsRuns_69 : decode cX7_readsRuns 69 = .ok (.iload 6, 2) := by decide +kernel
theorem dX7_readsRuns_71 : decode cX7_readsRuns 71 = .ok (.iload 4, 2) := by decide +kernel
theorem dX7_readsRuns_73 : decode cX7_readsRuns 73 = .ok (.iconst 2, 1) := by decide +kernel
theorem dX7_readsRuns_74 : decode cX7_readsRuns 74 = .ok (.iadd, 1) := by decide +kernel
theorem dX7_readsRuns_75 : decode cX7_readsRuns 75 = .ok (.if_icmp .lt 10, 3) := by decide +kernel
theorem dX7_readsRuns_78 : decode cX7_readsRuns 78 = .ok (.iload 7, 2) := by decide +kernel
theorem dX7_readsRuns_80 : decode cX7_readsRuns 80 = .ok (.ldc 74, 2) := by decide +kernel
theorem dX7_readsRuns_82 : decode cX7_readsRuns 82 = .ok (.if_icmp .le 16, 3) := by decide +kernel
theorem dX7_readsRuns_85 : decode cX7_readsRuns 85 = .ok (.aload_n 0, 1) := by decide +kernel
theorem dX7_readsRuns_86 : decode cX7_readsRuns 86 = .ok (.bipush 7, 2) := by decide +kernel
theorem dX7_readsRuns_88 : decode cX7_readsRuns 88 = .ok (.aload_n 0, 1) := by decide +kernel
theorem dX7_readsRuns_89 : decode cX7_readsRuns 89 = .ok (.getfield 183, 3) := by decide +kernel
theorem dX7_readsRuns_92 : decode cX7_readsRuns 92 = .ok (.iconst 4, 1) := by decide +kernel
theorem dX7_readsRuns_93 : decode cX7_readsRuns 93 = .ok (.isub, 1) := by decide +kernel
theorem dX7_readsRuns_94 : decode cX7_readsRuns 94 = .ok (.invokevirtual 186, 3) := by decide +kernel
theorem dX7_readsRuns_97 : decode cX7_readsRuns 97 = .ok (.ireturn, 1) := by decide +kernel
theorem dX7_readsRuns_98 : decode cX7_readsRuns 98 = .ok (.iload 6, 2) := by decide +kernel
theorem dX7_readsRuns_100 : decode cX7_readsRuns 100 = .ok (.istore 8, 2) := by decide +kernel
theorem dX7_readsRuns_102 : decode cX7_readsRuns 102 = .ok (.iload 8, 2) := by decide +kernel
theorem dX7_readsRuns_104 : decode cX7_readsRuns 104 = .ok (.iload 7, 2) := by decide +kernel
theorem dX7_readsRuns_106 : decode cX7_readsRuns 106 = .ok (.if_icmp .gt 16, 3) := by decide +kernel
theorem dX7_readsRuns_109 : decode cX7_readsRuns 109 = .ok (.aload_n 0, 1) := by decide +kernel
theorem dX7_readsRuns_110 : decode cX7_readsRuns 110 = .ok (.iload_n 1, 1) := by decide +kernel
theorem dX7_readsRuns_111 : decode cX7_readsRuns 111 = .ok (.iload 8, 2) := by decide +kernel
theorem dX7_readsRuns_113 : decode cX7_readsRuns 113 = .ok (.invokevirtual 82, 3) := by decide +kernel
theorem dX7_readsRuns_116 : decode cX7_readsRuns 116 = .ok (.iinc 8 1, 3) := by decide +kernel
theorem dX7_readsRuns_119 : decode cX7_readsRuns 119 = .ok (.goto (-17), 3) := by decide +kernel
theorem dX7_readsRuns_122 : decode cX7_readsRuns 122 = .ok (.aload_n 0, 1) := by decide +kernel
theorem dX7_readsRuns_123 : decode cX7_readsRuns 123 = .ok (.getfield 19, 3) := by decide +kernel
theorem dX7_readsRuns_126 : decode cX7_readsRuns 126 = .ok (.iload_n 1, 1) := by decide +kernel
theorem dX7_readsRuns_127 : decode cX7_readsRuns 127 = .ok (.dup2, 1) := by decide +kernel
theorem dX7_readsRuns_128 : decode cX7_readsRuns 128 = .ok (.iaload, 1) := by decide +kernel
theorem dX7_readsRuns_129 : decode cX7_readsRuns 129 = .ok (.iload 7, 2) := by decide +kernel
theorem dX7_readsRuns_131 : decode cX7_readsRuns 131 = .ok (.iload 6, 2) := by decide +kernel
theorem dX7_readsRuns_133 : decode cX7_readsRuns 133 = .ok (.isub, 1) := by decide +kernel
theorem dX7_readsRuns_134 : decode cX7_readsRuns 134 = .ok (.iconst 1, 1) := by decide +kernel
theorem dX7_readsRuns_135 : decode cX7_readsRuns 135 = .ok (.iadd, 1) := by decide +kernel
theorem dX7_readsRuns_136 : decode cX7_readsRuns 136 = .ok (.iadd, 1) := by decide +kernel
theorem dX7_readsRuns_137 : decode cX7_readsRuns 137 = .ok (.iastore, 1) := by decide +kernel
theorem dX7_readsRuns_138 : decode cX7_readsRuns 138 = .ok (.iload 7, 2) := by decide +kernel
theorem dX7_readsRuns_140 : decode cX7_readsRuns 140 = .ok (.istore 4, 2) := by decide +kernel
theorem dX7_readsRuns_142 : decode cX7_readsRuns 142 = .ok (.iinc 5 1, 3) := by decide +kernel
theorem dX7_readsRuns_145 : decode cX7_readsRuns 145 = .ok (.goto (-121), 3) := by decide +kernel
theorem dX7_readsRuns_148 : decode cX7_readsRuns 148 = .ok (.aload_n 0, 1) := by decide +kernel
theorem dX7_readsRuns_149 : decode cX7_readsRuns 149 = .ok (.getfield 19, 3) := by decide +kernel
theorem dX7_readsRuns_152 : decode cX7_readsRuns 152 = .ok (.iload_n 1, 1) := by decide +kernel
theorem dX7_readsRuns_153 : decode cX7_readsRuns 153 = .ok (.iaload, 1) := by decide +kernel
theorem dX7_readsRuns_154 : decode cX7_readsRuns 154 = .ok (.iload_n 2, 1) := by decide +kernel
theorem dX7_readsRuns_155 : decode cX7_readsRuns 155 = .ok (.if_icmp .eq 16, 3) := by decide +kernel
theorem dX7_readsRuns_158 : decode cX7_readsRuns 158 = .ok (.aload_n 0, 1) := by decide +kernel
theorem dX7_readsRuns_159 : decode cX7_readsRuns 159 = .ok (.bipush 8, 2) := by decide +kernel
theorem dX7_readsRuns_161 : decode cX7_readsRuns 161 = .ok (.aload_n 0, 1) := by decide +kernel
theorem dX7_readsRuns_162 : decode cX7_readsRuns 162 = .ok (.getfield 183, 3) := by decide +kernel
theorem dX7_readsRuns_165 : decode cX7_readsRuns 165 = .ok (.invokevirtual 186, 3) := by decide +kernel
theorem dX7_readsRuns_168 : decode cX7_readsRuns 168 = .ok (.ifCond .eq 7, 3) := by decide +kernel
theorem dX7_readsRuns_171 : decode cX7_readsRuns 171 = .ok (.iconst 1, 1) := by decide +kernel
theorem dX7_readsRuns_172 : decode cX7_readsRuns 172 = .ok (.goto 4, 3) := by decide +kernel
theorem dX7_readsRuns_175 : decode cX7_readsRuns 175 = .ok (.iconst 0, 1) := by decide +kernel
theorem dX7_readsRuns_176 : decode cX7_readsRuns 176 = .ok (.ireturn, 1) := by decide +kernel
set_option maxRecDepth 20000 in
theorem ggX7_readsAll_X7_readsHead : GoodIn wsX7_readsAll wsX7_readsHead := goodIn_r _ [16, 17, 8, 18, 19, 20, 21, 22, 23, 24, 15, 25, 4, 11, 26, 27, 28, 29, 30, 31, 32, 33, 34, 35, 36, 37, 38, 39, 40, 1, 41, 10, 42, 43, 44, 45, 2, 3, 5, 66, 67, 68, 69, 70, 71, 72, 73, 74, 75, 76, 77, 78, 79, 80, 81] rfl (by decide +kernel)
set_option maxRecDepth 20000 in
theorem gX7_readsAll_X7_readsHead : GoodIn wsX7_readsAll (wsV RX7 212 RX7 yX7_readsHead wsX7_readsHead) := goodIn_app (goodIn_of _ (by decide +kernel)) ggX7_readsAll_X7_readsHead
set_option maxRecDepth 20000 in
theorem ggX7_readsAll_X7_fails : GoodIn wsX7_readsAll wsX7_fails := goodIn_r _ [29, 30, 31, 66, 67, 68, 69, 70, 71, 72, 73, 74, 75, 76, 77, 78, 79, 80, 81] rfl (by decide +kernel)
set_option maxRecDepth 20000 in
theorem gX7_readsAll_X7_fails : GoodIn wsX7_readsAll (wsV RX7 186 RX7 yX7_fails wsX7_fails) := goodIn_app (goodIn_of _ (by decide +kernel)) ggX7_readsAll_X7_fails
set_option maxRecDepth 20000 in
theorem ggX7_readsAll_X7_readsRuns : GoodIn wsX7_readsAll wsX7_readsRuns := goodIn_r _ [49, 50, 4, 7, 22, 23, 24, 15, 25, 11, 26, 27, 28, 29, 30, 31, 32, 33, 34, 35, 36, 51, 52, 53, 54, 6, 66, 67, 68, 69, 70, 71, 72, 73, 74, 75, 76, 77, 78, 79, 80, 81] rfl (by decide +kernel)
set_option maxRecDepth 20000 in
theorem gX7_readsAll_X7_readsRuns : GoodIn wsX7_readsAll (wsV RX7 216 RX7 yX7_readsRuns wsX7_readsRuns) := goodIn_app (goodIn_of _ (by decide +kernel)) ggX7_readsAll_X7_readsRuns
set_option maxRecDepth 20000 in
theorem ggX7_readsAll_X7_readsArray : GoodIn wsX7_readsAll wsX7_readsArray := goodIn_r _ [58, 4, 7, 22, 23, 24, 15, 25, 11, 26, 27, 28, 29, 30, 31, 32, 33, 34, 35, 36, 51, 52, 53, 54, 6, 66, 67, 68, 69, 70, 71, 72, 73, 74, 75, 76, 77, 78, 79, 80, 81] rfl (by decide +kernel)
set_option maxRecDepth 20000 in
theorem gX7_readsAll_X7_readsArray : GoodIn wsX7_readsAll (wsV RX7 219 RX7 yX7_readsArray wsX7_readsArray) := goodIn_app (goodIn_of _ (by decide +kernel)) ggX7_readsAll_X7_readsArray
set_option maxRecDepth 20000 in
theorem ggX7_readsAll_X7_readsBitmap : GoodIn wsX7_readsAll wsX7_readsBitmap := goodIn_r _ [62, 6, 7, 4, 22, 23, 24, 15, 25, 11, 26, 27, 28, 29, 30, 31, 32, 33, 34, 35, 36, 63, 64, 65, 66, 67, 68, 69, 70, 71, 72, 73, 74, 75, 76, 77, 78, 79, 80, 81] rfl (by decide +kernel)
set_option maxRecDepth 20000 in
theorem gX7_readsAll_X7_readsBitmap : GoodIn wsX7_readsAll (wsV RX7 222 RX7 yX7_readsBitmap wsX7_readsBitmap) := goodIn_app (goodIn_of _ (by decide +kernel)) ggX7_readsAll_X7_readsBitmap
theorem dX7_readsAll_0 : decode cX7_readsAll 0 = .ok (.aload_n 0, 1) := by decide +kernel
theorem dX7_readsAll_1 : decode cX7_readsAll 1 = .ok (.invokevirtual 212, 3) := by decide +kernel
theorem dX7_readsAll_4 : decode cX7_readsAll 4 = .ok (.ifCond .ne 5, 3) := by decide +kernel
theorem dX7_readsAll_7 : decode cX7_readsAll 7 = .ok (.iconst 0, 1) := by decide +kernel
theorem dX7_readsAll_8 : decode cX7_readsAll 8 = .ok (.ireturn, 1) := by decide +kernel
theorem dX7_readsAll_9 : decode cX7_readsAll 9 = .ok (.iconst 0, 1) := by decide +kernel
theorem dX7_readsAll_10 : decode cX7_readsAll 10 = .ok (.istore_n 1, 1) := by decide +kernel
theorem dX7_readsAll_11 : decode cX7_readsAll 11 = .ok (.iload_n 1, 1) := by decide +kernel
theorem dX7_readsAll_12 : decode cX7_readsAll 12 = .ok (.aload_n 0, 1) := by decide +kernel
theorem dX7_readsAll_13 : decode cX7_readsAll 13 = .ok (.getfield 7, 3) := by decide +kernel
theorem dX7_readsAll_16 : decode cX7_readsAll 16 = .ok (.bipush 16, 2) := by decide +kernel
theorem dX7_readsAll_18 : decode cX7_readsAll 18 = .ok (.iaload, 1) := by decide +kernel
theorem dX7_readsAll_19 : decode cX7_readsAll 19 = .ok (.if_icmp .ge 203, 3) := by decide +kernel
theorem dX7_readsAll_22 : decode cX7_readsAll 22 = .ok (.bipush 96, 2) := by decide +kernel
theorem dX7_readsAll_24 : decode cX7_readsAll 24 = .ok (.iload_n 1, 1) := by decide +kernel
theorem dX7_readsAll_25 : decode cX7_readsAll 25 = .ok (.iadd, 1) := by decide +kernel
theorem dX7_readsAll_26 : decode cX7_readsAll 26 = .ok (.istore_n 2, 1) := by decide +kernel
theorem dX7_readsAll_27 : decode cX7_readsAll 27 = .ok (.aload_n 0, 1) := by decide +kernel
theorem dX7_readsAll_28 : decode cX7_readsAll 28 = .ok (.getfield 38, 3) := by decide +kernel
theorem dX7_readsAll_31 : decode cX7_readsAll 31 = .ok (.iload_n 1, 1) := by decide +kernel
theorem dX7_readsAll_32 : decode cX7_readsAll 32 = .ok (.laload, 1) := by decide +kernel
theorem dX7_readsAll_33 : decode cX7_readsAll 33 = .ok (.ldc2_w 52, 3) := by decide +kernel
theorem dX7_readsAll_36 : decode cX7_readsAll 36 = .ok (.lcmp, 1) := by decide +kernel
theorem dX7_readsAll_37 : decode cX7_readsAll 37 = .ok (.ifCond .eq 31, 3) := by decide +kernel
theorem dX7_readsAll_40 : decode cX7_readsAll 40 = .ok (.aload_n 0, 1) := by decide +kernel
theorem dX7_readsAll_41 : decode cX7_readsAll 41 = .ok (.getfield 38, 3) := by decide +kernel
theorem dX7_readsAll_44 : decode cX7_readsAll 44 = .ok (.iload_n 1, 1) := by decide +kernel
theorem dX7_readsAll_45 : decode cX7_readsAll 45 = .ok (.laload, 1) := by decide +kernel
theorem dX7_readsAll_46 : decode cX7_readsAll 46 = .ok (.aload_n 0, 1) := by decide +kernel
theorem dX7_readsAll_47 : decode cX7_readsAll 47 = .ok (.getfield 183, 3) := by decide +kernel
theorem dX7_readsAll_50 : decode cX7_readsAll 50 = .ok (.i2l, 1) := by decide +kernel
theorem dX7_readsAll_51 : decode cX7_readsAll 51 = .ok (.lcmp, 1) := by decide +kernel
theorem dX7_readsAll_52 : decode cX7_readsAll 52 = .ok (.ifCond .eq 16, 3) := by decide +kernel
theorem dX7_readsAll_55 : decode cX7_readsAll 55 = .ok (.aload_n 0, 1) := by decide +kernel
theorem dX7_readsAll_56 : decode cX7_readsAll 56 = .ok (.bipush 6, 2) := by decide +kernel
theorem dX7_readsAll_58 : decode cX7_readsAll 58 = .ok (.aload_n 0, 1) := by decide +kernel
theorem dX7_readsAll_59 : decode cX7_readsAll 59 = .ok (.getfield 35, 3) := by decide +kernel
theorem dX7_readsAll_62 : decode cX7_readsAll 62 = .ok (.iload_n 1, 1) := by decide +kernel
theorem dX7_readsAll_63 : decode cX7_readsAll 63 = .ok (.iaload, 1) := by decide +kernel
theorem dX7_readsAll_64 : decode cX7_readsAll 64 = .ok (.invokevirtual 186, 3) := by decide +kernel
theorem dX7_readsAll_67 : decode cX7_readsAll 67 = .ok (.ireturn, 1) := by decide +kernel
theorem dX7_readsAll_68 : decode cX7_readsAll 68 = .ok (.iconst 0, 1) := by decide +kernel
theorem dX7_readsAll_69 : decode cX7_readsAll 69 = .ok (.istore_n 3, 1) := by decide +kernel
theorem dX7_readsAll_70 : decode cX7_readsAll 70 = .ok (.iload_n 3, 1) := by decide +kernel
theorem dX7_readsAll_71 : decode cX7_readsAll 71 = .ok (.sipush 1024, 3) := by decide +kernel
theorem dX7_readsAll_74 : decode cX7_readsAll 74 = .ok (.if_icmp .ge 22, 3) := by decide +kernel
theorem dX7_readsAll_77 : decode cX7_readsAll 77 = .ok (.aload_n 0, 1) := by decide +kernel
theorem dX7_readsAll_78 : decode cX7_readsAll 78 = .ok (.getfield 23, 3) := by decide +kernel
theorem dX7_readsAll_81 : decode cX7_readsAll 81 = .ok (.sipush 1024, 3) := by decide +kernel
theorem dX7_readsAll_84 : decode cX7_readsAll 84 = .ok (.iload_n 2, 1) := by decide +kernel
theorem dX7_readsAll_85 : decode cX7_readsAll 85 = .ok (.imul, 1) := by decide +kernel
theorem dX7_readsAll_86 : decode cX7_readsAll 86 = .ok (.iload_n 3, 1) := by decide +kernel
theorem dX7_readsAll_87 : decode cX7_readsAll 87 = .ok (.iadd, 1) := by decide +kernel
theorem dX7_readsAll_88 : decode cX7_readsAll 88 = .ok (.lconst 0, 1) := by decide +kernel
theorem dX7_readsAll_89 : decode cX7_readsAll 89 = .ok (.lastore, 1) := by decide +kernel
theorem dX7_readsAll_90 : decode cX7_readsAll 90 = .ok (.iinc 3 1, 3) := by decide +kernel
theorem dX7_readsAll_93 : decode cX7_readsAll 93 = .ok (.goto (-23), 3) := by decide +kernel
theorem dX7_readsAll_96 : decode cX7_readsAll 96 = .ok (.aload_n 0, 1) := by decide +kernel
theorem dX7_readsAll_97 : decode cX7_readsAll 97 = .ok (.getfield 19, 3) := by decide +kernel
theorem dX7_readsAll_100 : decode cX7_readsAll 100 = .ok (.iload_n 2, 1) := by decide +kernel
theorem dX7_readsAll_101 : decode cX7_readsAll 101 = .ok (.iconst 0, 1) := by decide +kernel
theorem dX7_readsAll_102 : decode cX7_readsAll 102 = .ok (.iastore, 1) := by decide +kernel
theorem dX7_readsAll_103 : decode cX7_readsAll 103 = .ok (.aload_n 0, 1) := by decide +kernel
theorem dX7_readsAll_104 : decode cX7_readsAll 104 = .ok (.getfield 198, 3) := by decide +kernel
theorem dX7_readsAll_107 : decode cX7_readsAll 107 = .ok (.iload_n 1, 1) := by decide +kernel
theorem dX7_readsAll_108 : decode cX7_readsAll 108 = .ok (.ishr, 1) := by decide +kernel
theorem dX7_readsAll_109 : decode cX7_readsAll 109 = .ok (.iconst 1, 1) := by decide +kernel
theorem dX7_readsAll_110 : decode cX7_readsAll 110 = .ok (.iand, 1) := by decide +kernel
theorem dX7_readsAll_111 : decode cX7_readsAll 111 = .ok (.iconst 1, 1) := by decide +kernel
theorem dX7_readsAll_112 : decode cX7_readsAll 112 = .ok (.if_icmp .ne 7, 3) := by decide +kernel
theorem dX7_readsAll_115 : decode cX7_readsAll 115 = .ok (.iconst 1, 1) := by decide +kernel
theorem dX7_readsAll_116 : decode cX7_readsAll 116 = .ok (.goto 4, 3) := by decide +kernel
theorem dX7_readsAll_119 : decode cX7_readsAll 119 = .ok (.iconst 0, 1) := by decide +kernel
theorem dX7_readsAll_120 : decode cX7_readsAll 120 = .ok (.istore_n 3, 1) := by decide +kernel
theorem dX7_readsAll_121 : decode cX7_readsAll 121 = .ok (.aload_n 0, 1) := by decide +kernel
theorem dX7_readsAll_122 : decode cX7_readsAll 122 = .ok (.getfield 16, 3) := by decide +kernel
theorem dX7_readsAll_125 : decode cX7_readsAll 125 = .ok (.iload_n 2, 1) := by decide +kernel
theorem dX7_readsAll_126 : decode cX7_readsAll 126 = .ok (.iload_n 3, 1) := by decide +kernel
theorem dX7_readsAll_127 : decode cX7_readsAll 127 = .ok (.ifCond .eq 7, 3) := by decide +kernel
theorem dX7_readsAll_130 : decode cX7_readsAll 130 = .ok (.iconst 2, 1) := by decide +kernel
theorem dX7_readsAll_131 : decode cX7_readsAll 131 = .ok (.goto 20, 3) := by decide +kernel
theorem dX7_readsAll_134 : decode cX7_readsAll 134 = .ok (.aload_n 0, 1) := by decide +kernel
theorem dX7_readsAll_135 : decode cX7_readsAll 135 = .ok (.getfield 41, 3) := by decide +kernel
theorem dX7_readsAll_138 : decode cX7_readsAll 138 = .ok (.iload_n 1, 1) := by decide +kernel
theorem dX7_readsAll_139 : decode cX7_readsAll 139 = .ok (.iaload, 1) := by decide +kernel
theorem dX7_readsAll_140 : decode cX7_readsAll 140 = .ok (.sipush 4096, 3) := by decide +kernel
theorem dX7_readsAll_143 : decode cX7_readsAll 143 = .ok (.if_icmp .gt 7, 3) := by decide +kernel
theorem dX7_readsAll_146 : decode cX7_readsAll 146 = .ok (.iconst 0, 1) := by decide +kernel
theorem dX7_readsAll_147 : decode cX7_readsAll 147 = .ok (.goto 4, 3) := by decide +kernel
theorem dX7_readsAll_150 : decode cX7_readsAll 150 = .ok (.iconst 1, 1) := by decide +kernel
theorem dX7_readsAll_151 : decode cX7_readsAll 151 = .ok (.iastore, 1) := by decide +kernel
theorem dX7_readsAll_152 : decode cX7_readsAll 152 = .ok (.iload_n 3, 1) := by decide +kernel
theorem dX7_readsAll_153 : decode cX7_readsAll 153 = .ok (.ifCond .eq 17, 3) := by decide +kernel
theorem dX7_readsAll_156 : decode cX7_readsAll 156 = .ok (.aload_n 0, 1) := by decide +kernel
theorem dX7_readsAll_157 : decode cX7_readsAll 157 = .ok (.iload_n 2, 1) := by decide +kernel
theorem dX7_readsAll_158 : decode cX7_readsAll 158 = .ok (.aload_n 0, 1) := by decide +kernel
theorem dX7_readsAll_159 : decode cX7_readsAll 159 = .ok (.getfield 41, 3) := by decide +kernel
theorem dX7_readsAll_162 : decode cX7_readsAll 162 = .ok (.iload_n 1, 1) := by decide +kernel
theorem dX7_readsAll_163 : decode cX7_readsAll 163 = .ok (.iaload, 1) := by decide +kernel
theorem dX7_readsAll_164 : decode cX7_readsAll 164 = .ok (.invokevirtual 216, 3) := by decide +kernel
theorem dX7_readsAll_167 : decode cX7_readsAll 167 = .ok (.goto 40, 3) := by decide +kernel
theorem dX7_readsAll_170 : decode cX7_readsAll 170 = .ok (.aload_n 0, 1) := by decide +kernel
theorem dX7_readsAll_171 : decode cX7_readsAll 171 = .ok (.getfield 41, 3) := by decide +kernel
theorem dX7_readsAll_174 : decode cX7_readsAll 174 = .ok (.iload_n 1, 1) := by decide +kernel
theorem dX7_readsAll_175 : decode cX7_readsAll 175 = .ok (.iaload, 1) := by decide +kernel
theorem dX7_readsAll_176 : decode cX7_readsAll 176 = .ok (.sipush 4096, 3) := by decide +kernel
theorem dX7_readsAll_179 : decode cX7_readsAll 179 = .ok (.if_icmp .gt 17, 3) := by decide +kernel
theorem dX7_readsAll_182 : decode cX7_readsAll 182 = .ok (.aload_n 0, 1) := by decide +kernel
theorem dX7_readsAll_183 : decode cX7_readsAll 183 = .ok (.iload_n 2, 1) := by decide +kernel
theorem dX7_readsAll_184 : decode cX7_readsAll 184 = .ok (.aload_n 0, 1) := by decide +kernel
theorem dX7_readsAll_185 : decode cX7_readsAll 185 = .ok (.getfield 41, 3) := by decide +kernel
theorem dX7_readsAll_188 : decode cX7_readsAll 188 = .ok (.iload_n 1, 1) := by decide +kernel
theorem dX7_readsAll_189 : decode cX7_readsAll 189 = .ok (.iaload, 1) := by decide +kernel
theorem dX7_readsAll_190 : decode cX7_readsAll 190 = .ok (.invokevirtual 219, 3) := by decide +kernel
theorem dX7_readsAll_193 : decode cX7_readsAll 193 = .ok (.goto 14, 3) := by decide +kernel
theorem dX7_readsAll_196 : decode cX7_readsAll 196 = .ok (.aload_n 0, 1) := by decide +kernel
theorem dX7_readsAll_197 : decode cX7_readsAll 197 = .ok (.iload_n 2, 1) := by decide +kernel
theorem dX7_readsAll_198 : decode cX7_readsAll 198 = .ok (.aload_n 0, 1) := by decide +kernel
theorem dX7_readsAll_199 : decode cX7_readsAll 199 = .ok (.getfield 41, 3) := by decide +kernel
theorem dX7_readsAll_202 : decode cX7_readsAll 202 = .ok (.iload_n 1, 1) := by decide +kernel
theorem dX7_readsAll_203 : decode cX7_readsAll 203 = .ok (.iaload, 1) := by decide +kernel
theorem dX7_readsAll_204 : decode cX7_readsAll 204 = .ok (.invokevirtual 222, 3) := by decide +kernel
theorem dX7_readsAll_207 : decode cX7_readsAll 207 = .ok (.istore 4, 2) := by decide +kernel
theorem dX7_readsAll_209 : decode cX7_readsAll 209 = .ok (.iload 4, 2) := by decide +kernel
theorem dX7_readsAll_211 : decode cX7_readsAll 211 = .ok (.ifCond .ne 5, 3) := by decide +kernel
theorem dX7_readsAll_214 : decode cX7_readsAll 214 = .ok (.iconst 0, 1) := by decide +kernel
theorem dX7_readsAll_215 : decode cX7_readsAll 215 = .ok (.ireturn, 1) := by decide +kernel
theorem dX7_readsAll_216 : decode cX7_readsAll 216 = .ok (.iinc 1 1, 3) := by decide +kernel
theorem dX7_readsAll_219 : decode cX7_readsAll 219 = .ok (.goto (-208), 3) := by decide +kernel
theorem dX7_readsAll_222 : decode cX7_readsAll 222 = .ok (.aload_n 0, 1) := by decide +kernel
theorem dX7_readsAll_223 : decode cX7_readsAll 223 = .ok (.getfield 183, 3) := by decide +kernel
theorem dX7_readsAll_226 : decode cX7_readsAll 226 = .ok (.aload_n 0, 1) := by decide +kernel
theorem dX7_readsAll_227 : decode cX7_readsAll 227 = .ok (.getfield 174, 3) := by decide +kernel
theorem dX7_readsAll_230 : decode cX7_readsAll 230 = .ok (.if_icmp .eq 16, 3) := by decide +kernel
theorem dX7_readsAll_233 : decode cX7_readsAll 233 = .ok (.aload_n 0, 1) := by decide +kernel
theorem dX7_readsAll_234 : decode cX7_readsAll 234 = .ok (.bipush 9, 2) := by decide +kernel
theorem dX7_readsAll_236 : decode cX7_readsAll 236 = .ok (.aload_n 0, 1) := by decide +kernel
theorem dX7_readsAll_237 : decode cX7_readsAll 237 = .ok (.getfield 183, 3) := by decide +kernel
theorem dX7_readsAll_240 : decode cX7_readsAll 240 = .ok (.invokevirtual 186, 3) := by decide +kernel
theorem dX7_readsAll_243 : decode cX7_readsAll 243 = .ok (.ifCond .eq 7, 3) := by decide +kernel
theorem dX7_readsAll_246 : decode cX7_readsAll 246 = .ok (.iconst 1, 1) := by decide +kernel
theorem dX7_readsAll_247 : decode cX7_readsAll 247 = .ok (.goto 4, 3) := by decide +kernel
theorem dX7_readsAll_250 : decode cX7_readsAll 250 = .ok (.iconst 0, 1) := by decide +kernel
theorem dX7_readsAll_251 : decode cX7_readsAll 251 = .ok (.ireturn, 1) := by decide +kernel
set_option maxRecDepth 20000 in
theorem ggX7_read_X7_isSet : GoodIn wsX7_read wsX7_isSet := goodIn_r _ [8, 9, 10, 11, 7, 12] rfl (by decide +kernel)
set_option maxRecDepth 20000 in
theorem gX7_read_X7_isSet : GoodIn wsX7_read (va_wsS RX7 66 yX7_isSet wsX7_isSet) := goodIn_app (goodIn_of _ (by decide +kernel)) ggX7_read_X7_isSet
set_option maxRecDepth 20000 in
theorem ggX7_read_X7_readsAll : GoodIn wsX7_read wsX7_readsAll := goodIn_r _ [16, 17, 18, 19, 3, 20, 21, 22, 23, 24, 25, 26, 27, 28, 29, 7, 30, 31, 32, 33, 34, 35, 36, 37, 38, 39, 40, 41, 42, 43, 2, 4, 44, 45, 46, 47, 48, 49, 50, 51, 52, 53, 54, 55, 56, 57, 58, 59, 60, 61, 62, 63, 64, 65, 66, 67, 68, 69, 70, 71, 72, 73, 74, 75, 76, 77, 90, 91, 92, 93, 94, 95, 96, 97, 98, 99, 100, 101, 102, 103, 104, 105] rfl (by decide +kernel)
set_option maxRecDepth 20000 in
theorem gX7_read_X7_readsAll : GoodIn wsX7_read (wsV RX7 225 RX7 yX7_readsAll wsX7_readsAll) := goodIn_app (goodIn_of _ (by decide +kernel)) ggX7_read_X7_readsAll
set_option maxRecDepth 20000 in
theorem ggX7_read_X7_copySet : GoodIn wsX7_read wsX7_copySet := goodIn_r _ [81, 17, 82, 83, 84, 7, 85, 53, 24, 22, 21, 90, 91, 92, 93, 94, 95, 96, 97, 98, 99, 100, 101, 102, 103, 104, 105] rfl (by decide +kernel)
set_option maxRecDepth 20000 in
theorem gX7_read_X7_copySet : GoodIn wsX7_read (wsV RX7 118 RX7 yX7_copySet wsX7_copySet) := goodIn_app (goodIn_of _ (by decide +kernel)) ggX7_read_X7_copySet
set_option maxRecDepth 20000 in
theorem ggX7_read_X7_all : GoodIn wsX7_read wsX7_all := goodIn_r _ [89, 17, 22, 90, 91, 92, 93, 94, 95, 96, 97, 98, 99, 100, 101, 102, 103, 104, 105] rfl (by decide +kernel)
set_option maxRecDepth 20000 in
theorem gX7_read_X7_all : GoodIn wsX7_read (wsV RX7 88 RX7 yX7_all wsX7_all) := goodIn_app (goodIn_of _ (by decide +kernel)) ggX7_read_X7_all
theorem dX7_read_0 : decode cX7_read 0 = .ok (.iload_n 1, 1) := by decide +kernel
theorem dX7_read_1 : decode cX7_read 1 = .ok (.invokestatic 66, 3) := by decide +kernel
theorem dX7_read_4 : decode cX7_read 4 = .ok (.ifCond .ne 6, 3) := by decide +kernel
theorem dX7_read_7 : decode cX7_read 7 = .ok (.bipush (-2), 2) := by decide +kernel
theorem dX7_read_9 : decode cX7_read 9 = .ok (.ireturn, 1) := by decide +kernel
theorem dX7_read_10 : decode cX7_read 10 = .ok (.aload_n 0, 1) := by decide +kernel
theorem dX7_read_11 : decode cX7_read 11 = .ok (.getfield 27, 3) := by decide +kernel
theorem dX7_read_14 : decode cX7_read 14 = .ok (.iconst 1, 1) := by decide +kernel
theorem dX7_read_15 : decode cX7_read 15 = .ok (.if_icmp .ge 6, 3) := by decide +kernel
theorem dX7_read_18 : decode cX7_read 18 = .ok (.bipush (-5), 2) := by decide +kernel
theorem dX7_read_20 : decode cX7_read 20 = .ok (.ireturn, 1) := by decide +kernel
theorem dX7_read_21 : decode cX7_read 21 = .ok (.aload_n 0, 1) := by decide +kernel
theorem dX7_read_22 : decode cX7_read 22 = .ok (.dup, 1) := by decide +kernel
theorem dX7_read_23 : decode cX7_read 23 = .ok (.getfield 27, 3) := by decide +kernel
theorem dX7_read_26 : decode cX7_read 26 = .ok (.iconst 1, 1) := by decide +kernel
theorem dX7_read_27 : decode cX7_read 27 = .ok (.isub, 1) := by decide +kernel
theorem dX7_read_28 : decode cX7_read 28 = .ok (.putfield 27, 3) := by decide +kernel
theorem dX7_read_31 : decode cX7_read 31 = .ok (.aload_n 0, 1) := by decide +kernel
theorem dX7_read_32 : decode cX7_read 32 = .ok (.iconst 0, 1) := by decide +kernel
theorem dX7_read_33 : decode cX7_read 33 = .ok (.putfield 177, 3) := by decide +kernel
theorem dX7_read_36 : decode cX7_read 36 = .ok (.aload_n 0, 1) := by decide +kernel
theorem dX7_read_37 : decode cX7_read 37 = .ok (.iconst 0, 1) := by decide +kernel
theorem dX7_read_38 : decode cX7_read 38 = .ok (.putfield 183, 3) := by decide +kernel
theorem dX7_read_41 : decode cX7_read 41 = .ok (.aload_n 0, 1) := by decide +kernel
theorem dX7_read_42 : decode cX7_read 42 = .ok (.invokevirtual 225, 3) := by decide +kernel
theorem dX7_read_45 : decode cX7_read 45 = .ok (.ifCond .ne 11, 3) := by decide +kernel
theorem dX7_read_48 : decode cX7_read 48 = .ok (.bipush (-100), 2) := by decide +kernel
theorem dX7_read_50 : decode cX7_read 50 = .ok (.aload_n 0, 1) := by decide +kernel
theorem dX7_read_51 : decode cX7_read 51 = .ok (.getfield 180, 3) := by decide +kernel
theorem dX7_read_54 : decode cX7_read 54 = .ok (.isub, 1) := by decide +kernel
theorem dX7_read_55 : decode cX7_read 55 = .ok (.ireturn, 1) := by decide +kernel
theorem dX7_read_56 : decode cX7_read 56 = .ok (.aload_n 0, 1) := by decide +kernel
theorem dX7_read_57 : decode cX7_read 57 = .ok (.bipush 16, 2) := by decide +kernel
theorem dX7_read_59 : decode cX7_read 59 = .ok (.iload_n 1, 1) := by decide +kernel
theorem dX7_read_60 : decode cX7_read 60 = .ok (.invokevirtual 118, 3) := by decide +kernel
theorem dX7_read_63 : decode cX7_read 63 = .ok (.aload_n 0, 1) := by decide +kernel
theorem dX7_read_64 : decode cX7_read 64 = .ok (.iload_n 1, 1) := by decide +kernel
theorem dX7_read_65 : decode cX7_read 65 = .ok (.invokevirtual 88, 3) := by decide +kernel
theorem dX7_read_68 : decode cX7_read 68 = .ok (.ireturn, 1) := by decide +kernel
theorem dX7_fault_0 : decode cX7_fault 0 = .ok (.aload_n 0, 1) := by decide +kernel
theorem dX7_fault_1 : decode cX7_fault 1 = .ok (.getfield 177, 3) := by decide +kernel
theorem dX7_fault_4 : decode cX7_fault 4 = .ok (.ireturn, 1) := by decide +kernel
set_option maxRecDepth 20000 in
theorem ggX7_cut_X7_in : GoodIn wsX7_cut wsX7_in := goodIn_r _ [5] rfl (by decide +kernel)
set_option maxRecDepth 20000 in
theorem gX7_cut_X7_in : GoodIn wsX7_cut (va_wsS RX7 46 yX7_in wsX7_in) := goodIn_app (goodIn_of _ (by decide +kernel)) ggX7_cut_X7_in
theorem dX7_cut_0 : decode cX7_cut 0 = .ok (.iload_n 1, 1) := by decide +kernel
theorem dX7_cut_1 : decode cX7_cut 1 = .ok (.i2l, 1) := by decide +kernel
theorem dX7_cut_2 : decode cX7_cut 2 = .ok (.lconst 0, 1) := by decide +kernel
theorem dX7_cut_3 : decode cX7_cut 3 = .ok (.aload_n 0, 1) := by decide +kernel
theorem dX7_cut_4 : decode cX7_cut 4 = .ok (.getfield 174, 3) := by decide +kernel
theorem dX7_cut_7 : decode cX7_cut 7 = .ok (.i2l, 1) := by decide +kernel
theorem dX7_cut_8 : decode cX7_cut 8 = .ok (.invokestatic 46, 3) := by decide +kernel
theorem dX7_cut_11 : decode cX7_cut 11 = .ok (.ifCond .ne 6, 3) := by decide +kernel
theorem dX7_cut_14 : decode cX7_cut 14 = .ok (.bipush (-2), 2) := by decide +kernel
theorem dX7_cut_16 : decode cX7_cut 16 = .ok (.ireturn, 1) := by decide +kernel
theorem dX7_cut_17 : decode cX7_cut 17 = .ok (.aload_n 0, 1) := by decide +kernel
theorem dX7_cut_18 : decode cX7_cut 18 = .ok (.getfield 174, 3) := by decide +kernel
theorem dX7_cut_21 : decode cX7_cut 21 = .ok (.iload_n 1, 1) := by decide +kernel
theorem dX7_cut_22 : decode cX7_cut 22 = .ok (.isub, 1) := by decide +kernel
theorem dX7_cut_23 : decode cX7_cut 23 = .ok (.istore_n 2, 1) := by decide +kernel
theorem dX7_cut_24 : decode cX7_cut 24 = .ok (.aload_n 0, 1) := by decide +kernel
theorem dX7_cut_25 : decode cX7_cut 25 = .ok (.iload_n 1, 1) := by decide +kernel
theorem dX7_cut_26 : decode cX7_cut 26 = .ok (.putfield 174, 3) := by decide +kernel
theorem dX7_cut_29 : decode cX7_cut 29 = .ok (.iload_n 2, 1) := by decide +kernel
theorem dX7_cut_30 : decode cX7_cut 30 = .ok (.ireturn, 1) := by decide +kernel
set_option maxRecDepth 20000 in
theorem ggX7_type_X7_in : GoodIn wsX7_type wsX7_in := goodIn_r _ [9] rfl (by decide +kernel)
set_option maxRecDepth 20000 in
theorem gX7_type_X7_in : GoodIn wsX7_type (va_wsS RX7 46 yX7_in wsX7_in) := goodIn_app (goodIn_of _ (by decide +kernel)) ggX7_type_X7_in
theorem dX7_type_0 : decode cX7_type 0 = .ok (.iload_n 3, 1) := by decide +kernel
theorem dX7_type_1 : decode cX7_type 1 = .ok (.i2l, 1) := by decide +kernel
theorem dX7_type_2 : decode cX7_type 2 = .ok (.lconst 0, 1) := by decide +kernel
theorem dX7_type_3 : decode cX7_type 3 = .ok (.ldc2_w 130, 3) := by decide +kernel
theorem dX7_type_6 : decode cX7_type 6 = .ok (.invokestatic 46, 3) := by decide +kernel
theorem dX7_type_9 : decode cX7_type 9 = .ok (.ifCond .ne 6, 3) := by decide +kernel
theorem dX7_type_12 : decode cX7_type 12 = .ok (.bipush (-2), 2) := by decide +kernel
theorem dX7_type_14 : decode cX7_type 14 = .ok (.ireturn, 1) := by decide +kernel
theorem dX7_type_15 : decode cX7_type 15 = .ok (.aload_n 0, 1) := by decide +kernel
theorem dX7_type_16 : decode cX7_type 16 = .ok (.getfield 174, 3) := by decide +kernel
theorem dX7_type_19 : decode cX7_type 19 = .ok (.iload_n 3, 1) := by decide +kernel
theorem dX7_type_20 : decode cX7_type 20 = .ok (.iadd, 1) := by decide +kernel
theorem dX7_type_21 : decode cX7_type 21 = .ok (.ldc 31, 2) := by decide +kernel
theorem dX7_type_23 : decode cX7_type 23 = .ok (.if_icmp .le 6, 3) := by decide +kernel
theorem dX7_type_26 : decode cX7_type 26 = .ok (.bipush (-4), 2) := by decide +kernel
theorem dX7_type_28 : decode cX7_type 28 = .ok (.ireturn, 1) := by decide +kernel
theorem dX7_type_29 : decode cX7_type 29 = .ok (.iconst 0, 1) := by decide +kernel
theorem dX7_type_30 : decode cX7_type 30 = .ok (.istore 4, 2) := by decide +kernel
theorem dX7_type_32 : decode cX7_type 32 = .ok (.iload 4, 2) := by decide +kernel
theorem dX7_type_34 : decode cX7_type 34 = .ok (.iload_n 3, 1) := by decide +kernel
theorem dX7_type_35 : decode cX7_type 35 = .ok (.if_icmp .ge 40, 3) := by decide +kernel
theorem dX7_type_38 : decode cX7_type 38 = .ok (.aload_n 0, 1) := by decide +kernel
theorem dX7_type_39 : decode cX7_type 39 = .ok (.getfield 32, 3) := by decide +kernel
theorem dX7_type_42 : decode cX7_type 42 = .ok (.aload_n 0, 1) := by decide +kernel
theorem dX7_type_43 : decode cX7_type 43 = .ok (.getfield 174, 3) := by decide +kernel
theorem dX7_type_46 : decode cX7_type 46 = .ok (.lload_n 1, 1) := by decide +kernel
theorem dX7_type_47 : decode cX7_type 47 = .ok (.bipush 8, 2) := by decide +kernel
theorem dX7_type_49 : decode cX7_type 49 = .ok (.iload 4, 2) := by decide +kernel
theorem dX7_type_51 : decode cX7_type 51 = .ok (.imul, 1) := by decide +kernel
theorem dX7_type_52 : decode cX7_type 52 = .ok (.lushr, 1) := by decide +kernel
theorem dX7_type_53 : decode cX7_type 53 = .ok (.ldc2_w 124, 3) := by decide +kernel
theorem dX7_type_56 : decode cX7_type 56 = .ok (.land, 1) := by decide +kernel
theorem dX7_type_57 : decode cX7_type 57 = .ok (.l2i, 1) := by decide +kernel
theorem dX7_type_58 : decode cX7_type 58 = .ok (.iastore, 1) := by decide +kernel
theorem dX7_type_59 : decode cX7_type 59 = .ok (.aload_n 0, 1) := by decide +kernel
theorem dX7_type_60 : decode cX7_type 60 = .ok (.dup, 1) := by decide +kernel
theorem dX7_type_61 : decode cX7_type 61 = .ok (.getfield 174, 3) := by decide +kernel
theorem dX7_type_64 : decode cX7_type 64 = .ok (.iconst 1, 1) := by decide +kernel
theorem dX7_type_65 : decode cX7_type 65 = .ok (.iadd, 1) := by decide +kernel
theorem dX7_type_66 : decode cX7_type 66 = .ok (.putfield 174, 3) := by decide +kernel
theorem dX7_type_69 : decode cX7_type 69 = .ok (.iinc 4 1, 3) := by decide +kernel
theorem dX7_type_72 : decode cX7_type 72 = .ok (.goto (-40), 3) := by decide +kernel
theorem dX7_type_75 : decode cX7_type 75 = .ok (.aload_n 0, 1) := by decide +kernel
theorem dX7_type_76 : decode cX7_type 76 = .ok (.getfield 174, 3) := by decide +kernel
theorem dX7_type_79 : decode cX7_type 79 = .ok (.ireturn, 1) := by decide +kernel
set_option maxRecDepth 20000 in
theorem ggX7_at_X7_in : GoodIn wsX7_at wsX7_in := goodIn_r _ [6] rfl (by decide +kernel)
set_option maxRecDepth 20000 in
theorem gX7_at_X7_in : GoodIn wsX7_at (va_wsS RX7 46 yX7_in wsX7_in) := goodIn_app (goodIn_of _ (by decide +kernel)) ggX7_at_X7_in
theorem dX7_at_0 : decode cX7_at 0 = .ok (.iload_n 1, 1) := by decide +kernel
theorem dX7_at_1 : decode cX7_at 1 = .ok (.i2l, 1) := by decide +kernel
theorem dX7_at_2 : decode cX7_at 2 = .ok (.lconst 0, 1) := by decide +kernel
theorem dX7_at_3 : decode cX7_at 3 = .ok (.aload_n 0, 1) := by decide +kernel
theorem dX7_at_4 : decode cX7_at 4 = .ok (.getfield 174, 3) := by decide +kernel
theorem dX7_at_7 : decode cX7_at 7 = .ok (.iconst 1, 1) := by decide +kernel
theorem dX7_at_8 : decode cX7_at 8 = .ok (.isub, 1) := by decide +kernel
theorem dX7_at_9 : decode cX7_at 9 = .ok (.i2l, 1) := by decide +kernel
theorem dX7_at_10 : decode cX7_at 10 = .ok (.invokestatic 46, 3) := by decide +kernel
theorem dX7_at_13 : decode cX7_at 13 = .ok (.ifCond .eq 12, 3) := by decide +kernel
theorem dX7_at_16 : decode cX7_at 16 = .ok (.aload_n 0, 1) := by decide +kernel
theorem dX7_at_17 : decode cX7_at 17 = .ok (.getfield 32, 3) := by decide +kernel
theorem dX7_at_20 : decode cX7_at 20 = .ok (.iload_n 1, 1) := by decide +kernel
theorem dX7_at_21 : decode cX7_at 21 = .ok (.iaload, 1) := by decide +kernel
theorem dX7_at_22 : decode cX7_at 22 = .ok (.goto 5, 3) := by decide +kernel
theorem dX7_at_25 : decode cX7_at 25 = .ok (.bipush (-2), 2) := by decide +kernel
theorem dX7_at_27 : decode cX7_at 27 = .ok (.ireturn, 1) := by decide +kernel
set_option maxRecDepth 20000 in
theorem ggX7_alter_X7_in : GoodIn wsX7_alter wsX7_in := goodIn_r _ [7] rfl (by decide +kernel)
set_option maxRecDepth 20000 in
theorem gX7_alter_X7_in : GoodIn wsX7_alter (va_wsS RX7 46 yX7_in wsX7_in) := goodIn_app (goodIn_of _ (by decide +kernel)) ggX7_alter_X7_in
theorem dX7_alter_0 : decode cX7_alter 0 = .ok (.iload_n 1, 1) := by decide +kernel
theorem dX7_alter_1 : decode cX7_alter 1 = .ok (.i2l, 1) := by decide +kernel
theorem dX7_alter_2 : decode cX7_alter 2 = .ok (.lconst 0, 1) := by decide +kernel
theorem dX7_alter_3 : decode cX7_alter 3 = .ok (.aload_n 0, 1) := by decide +kernel
theorem dX7_alter_4 : decode cX7_alter 4 = .ok (.getfield 174, 3) := by decide +kernel
theorem dX7_alter_7 : decode cX7_alter 7 = .ok (.iconst 1, 1) := by decide +kernel
theorem dX7_alter_8 : decode cX7_alter 8 = .ok (.isub, 1) := by decide +kernel
theorem dX7_alter_9 : decode cX7_alter 9 = .ok (.i2l, 1) := by decide +kernel
theorem dX7_alter_10 : decode cX7_alter 10 = .ok (.invokestatic 46, 3) := by decide +kernel
theorem dX7_alter_13 : decode cX7_alter 13 = .ok (.ifCond .eq 15, 3) := by decide +kernel
theorem dX7_alter_16 : decode cX7_alter 16 = .ok (.iload_n 2, 1) := by decide +kernel
theorem dX7_alter_17 : decode cX7_alter 17 = .ok (.i2l, 1) := by decide +kernel
theorem dX7_alter_18 : decode cX7_alter 18 = .ok (.lconst 0, 1) := by decide +kernel
theorem dX7_alter_19 : decode cX7_alter 19 = .ok (.ldc2_w 124, 3) := by decide +kernel
theorem dX7_alter_22 : decode cX7_alter 22 = .ok (.invokestatic 46, 3) := by decide +kernel
theorem dX7_alter_25 : decode cX7_alter 25 = .ok (.ifCond .ne 6, 3) := by decide +kernel
theorem dX7_alter_28 : decode cX7_alter 28 = .ok (.bipush (-2), 2) := by decide +kernel
theorem dX7_alter_30 : decode cX7_alter 30 = .ok (.ireturn, 1) := by decide +kernel
theorem dX7_alter_31 : decode cX7_alter 31 = .ok (.aload_n 0, 1) := by decide +kernel
theorem dX7_alter_32 : decode cX7_alter 32 = .ok (.getfield 32, 3) := by decide +kernel
theorem dX7_alter_35 : decode cX7_alter 35 = .ok (.iload_n 1, 1) := by decide +kernel
theorem dX7_alter_36 : decode cX7_alter 36 = .ok (.iaload, 1) := by decide +kernel
theorem dX7_alter_37 : decode cX7_alter 37 = .ok (.istore_n 3, 1) := by decide +kernel
theorem dX7_alter_38 : decode cX7_alter 38 = .ok (.aload_n 0, 1) := by decide +kernel
theorem dX7_alter_39 : decode cX7_alter 39 = .ok (.getfield 32, 3) := by decide +kernel
theorem dX7_alter_42 : decode cX7_alter 42 = .ok (.iload_n 1, 1) := by decide +kernel
theorem dX7_alter_43 : decode cX7_alter 43 = .ok (.iload_n 2, 1) := by decide +kernel
theorem dX7_alter_44 : decode cX7_alter 44 = .ok (.iastore, 1) := by decide +kernel
theorem dX7_alter_45 : decode cX7_alter 45 = .ok (.iload_n 3, 1) := by decide +kernel
theorem dX7_alter_46 : decode cX7_alter 46 = .ok (.ireturn, 1) := by decide +kernel
theorem dX7_work_0 : decode cX7_work 0 = .ok (.aload_n 0, 1) := by decide +kernel
theorem dX7_work_1 : decode cX7_work 1 = .ok (.getfield 27, 3) := by decide +kernel
theorem dX7_work_4 : decode cX7_work 4 = .ok (.ireturn, 1) := by decide +kernel
theorem dX7_size_0 : decode cX7_size 0 = .ok (.aload_n 0, 1) := by decide +kernel
theorem dX7_size_1 : decode cX7_size 1 = .ok (.getfield 174, 3) := by decide +kernel
theorem dX7_size_4 : decode cX7_size 4 = .ok (.ireturn, 1) := by decide +kernel
set_option maxRecDepth 20000 in
theorem ggX7_digest_X7_all : GoodIn wsX7_digest wsX7_all := goodIn_r _ [9, 3, 10, 33, 34, 35, 36, 37, 38, 39, 40, 41, 42, 43, 44, 45, 46, 47, 48] rfl (by decide +kernel)
set_option maxRecDepth 20000 in
theorem gX7_digest_X7_all : GoodIn wsX7_digest (wsV RX7 88 RX7 yX7_all wsX7_all) := goodIn_app (goodIn_of _ (by decide +kernel)) ggX7_digest_X7_all
set_option maxRecDepth 20000 in
theorem ggX7_digest_X7_container : GoodIn wsX7_digest wsX7_container := goodIn_r _ [14, 3, 15, 16, 17, 10, 18, 19, 8, 20, 21, 22, 23, 24, 25, 26, 27, 28, 4, 29, 30, 31, 32, 33, 34, 35, 36, 37, 38, 39, 40, 41, 42, 43, 44, 45, 46, 47, 48] rfl (by decide +kernel)
set_option maxRecDepth 20000 in
theorem gX7_digest_X7_container : GoodIn wsX7_digest (wsV RX7 232 RX7 yX7_container wsX7_container) := goodIn_app (goodIn_of _ (by decide +kernel)) ggX7_digest_X7_container
theorem dX7_digest_0 : decode cX7_digest 0 = .ok (.ldc2_w 228, 3) := by decide +kernel
theorem dX7_digest_3 : decode cX7_digest 3 = .ok (.lstore_n 1, 1) := by decide +kernel
theorem dX7_digest_4 : decode cX7_digest 4 = .ok (.iconst 0, 1) := by decide +kernel
theorem dX7_digest_5 : decode cX7_digest 5 = .ok (.istore_n 3, 1) := by decide +kernel
theorem dX7_digest_6 : decode cX7_digest 6 = .ok (.iload_n 3, 1) := by decide +kernel
theorem dX7_digest_7 : decode cX7_digest 7 = .ok (.bipush 8, 2) := by decide +kernel
theorem dX7_digest_9 : decode cX7_digest 9 = .ok (.if_icmp .ge 131, 3) := by decide +kernel
theorem dX7_digest_12 : decode cX7_digest 12 = .ok (.ldc2_w 230, 3) := by decide +kernel
theorem dX7_digest_15 : decode cX7_digest 15 = .ok (.lload_n 1, 1) := by decide +kernel
theorem dX7_digest_16 : decode cX7_digest 16 = .ok (.lmul, 1) := by decide +kernel
theorem dX7_digest_17 : decode cX7_digest 17 = .ok (.aload_n 0, 1) := by decide +kernel
theorem dX7_digest_18 : decode cX7_digest 18 = .ok (.iload_n 3, 1) := by decide +kernel
theorem dX7_digest_19 : decode cX7_digest 19 = .ok (.invokevirtual 88, 3) := by decide +kernel
theorem dX7_digest_22 : decode cX7_digest 22 = .ok (.i2l, 1) := by decide +kernel
theorem dX7_digest_23 : decode cX7_digest 23 = .ok (.ladd, 1) := by decide +kernel
theorem dX7_digest_24 : decode cX7_digest 24 = .ok (.lstore_n 1, 1) := by decide +kernel
theorem dX7_digest_25 : decode cX7_digest 25 = .ok (.ldc2_w 230, 3) := by decide +kernel
theorem dX7_digest_28 : decode cX7_digest 28 = .ok (.lload_n 1, 1) := by decide +kernel
theorem dX7_digest_29 : decode cX7_digest 29 = .ok (.lmul, 1) := by decide +kernel
theorem dX7_digest_30 : decode cX7_digest 30 = .ok (.aload_n 0, 1) := by decide +kernel
theorem dX7_digest_31 : decode cX7_digest 31 = .ok (.getfield 7, 3) := by decide +kernel
theorem dX7_digest_34 : decode cX7_digest 34 = .ok (.iload_n 3, 1) := by decide +kernel
theorem dX7_digest_35 : decode cX7_digest 35 = .ok (.iaload, 1) := by decide +kernel
theorem dX7_digest_36 : decode cX7_digest 36 = .ok (.i2l, 1) := by decide +kernel
theorem dX7_digest_37 : decode cX7_digest 37 = .ok (.ladd, 1) := by decide +kernel
theorem dX7_digest_38 : decode cX7_digest 38 = .ok (.lstore_n 1, 1) := by decide +kernel
theorem dX7_digest_39 : decode cX7_digest 39 = .ok (.iconst 0, 1) := by decide +kernel
theorem dX7_digest_40 : decode cX7_digest 40 = .ok (.istore 4, 2) := by decide +kernel
theorem dX7_digest_42 : decode cX7_digest 42 = .ok (.iload 4, 2) := by decide +kernel
theorem dX7_digest_44 : decode cX7_digest 44 = .ok (.aload_n 0, 1) := by decide +kernel
theorem dX7_digest_45 : decode cX7_digest 45 = .ok (.getfield 7, 3) := by decide +kernel
theorem dX7_digest_48 : decode cX7_digest 48 = .ok (.iload_n 3, 1) := by decide +kernel
theorem dX7_digest_49 : decode cX7_digest 49 = .ok (.iaload, 1) := by decide +kernel
theorem dX7_digest_50 : decode cX7_digest 50 = .ok (.if_icmp .ge 84, 3) := by decide +kernel
theorem dX7_digest_53 : decode cX7_digest 53 = .ok (.iconst 0, 1) := by decide +kernel
theorem dX7_digest_54 : decode cX7_digest 54 = .ok (.istore 5, 2) := by decide +kernel
theorem dX7_digest_56 : decode cX7_digest 56 = .ok (.iload 5, 2) := by decide +kernel
theorem dX7_digest_58 : decode cX7_digest 58 = .ok (.iconst 4, 1) := by decide +kernel
theorem dX7_digest_59 : decode cX7_digest 59 = .ok (.if_icmp .ge 26, 3) := by decide +kernel
theorem dX7_digest_62 : decode cX7_digest 62 = .ok (.ldc2_w 230, 3) := by decide +kernel
theorem dX7_digest_65 : decode cX7_digest 65 = .ok (.lload_n 1, 1) := by decide +kernel
theorem dX7_digest_66 : decode cX7_digest 66 = .ok (.lmul, 1) := by decide +kernel
theorem dX7_digest_67 : decode cX7_digest 67 = .ok (.aload_n 0, 1) := by decide +kernel
theorem dX7_digest_68 : decode cX7_digest 68 = .ok (.iload_n 3, 1) := by decide +kernel
theorem dX7_digest_69 : decode cX7_digest 69 = .ok (.iload 4, 2) := by decide +kernel
theorem dX7_digest_71 : decode cX7_digest 71 = .ok (.iload 5, 2) := by decide +kernel
theorem dX7_digest_73 : decode cX7_digest 73 = .ok (.invokevirtual 232, 3) := by decide +kernel
theorem dX7_digest_76 : decode cX7_digest 76 = .ok (.i2l, 1) := by decide +kernel
theorem dX7_digest_77 : decode cX7_digest 77 = .ok (.ladd, 1) := by decide +kernel
theorem dX7_digest_78 : decode cX7_digest 78 = .ok (.lstore_n 1, 1) := by decide +kernel
theorem dX7_digest_79 : decode cX7_digest 79 = .ok (.iinc 5 1, 3) := by decide +kernel
theorem dX7_digest_82 : decode cX7_digest 82 = .ok (.goto (-26), 3) := by decide +kernel
theorem dX7_digest_85 : decode cX7_digest 85 = .ok (.iconst 0, 1) := by decide +kernel
theorem dX7_digest_86 : decode cX7_digest 86 = .ok (.istore 5, 2) := by decide +kernel
theorem dX7_digest_88 : decode cX7_digest 88 = .ok (.iload 5, 2) := by decide +kernel
theorem dX7_digest_90 : decode cX7_digest 90 = .ok (.sipush 1024, 3) := by decide +kernel
theorem dX7_digest_93 : decode cX7_digest 93 = .ok (.if_icmp .ge 35, 3) := by decide +kernel
theorem dX7_digest_96 : decode cX7_digest 96 = .ok (.ldc2_w 230, 3) := by decide +kernel
theorem dX7_digest_99 : decode cX7_digest 99 = .ok (.lload_n 1, 1) := by decide +kernel
theorem dX7_digest_100 : decode cX7_digest 100 = .ok (.lmul, 1) := by decide +kernel
theorem dX7_digest_101 : decode cX7_digest 101 = .ok (.aload_n 0, 1) := by decide +kernel
theorem dX7_digest_102 : decode cX7_digest 102 = .ok (.getfield 23, 3) := by decide +kernel
theorem dX7_digest_105 : decode cX7_digest 105 = .ok (.sipush 1024, 3) := by decide +kernel
theorem dX7_digest_108 : decode cX7_digest 108 = .ok (.bipush 6, 2) := by decide +kernel
theorem dX7_digest_110 : decode cX7_digest 110 = .ok (.iload_n 3, 1) := by decide +kernel
theorem dX7_digest_111 : decode cX7_digest 111 = .ok (.imul, 1) := by decide +kernel
theorem dX7_digest_112 : decode cX7_digest 112 = .ok (.iload 4, 2) := by decide +kernel
theorem dX7_digest_114 : decode cX7_digest 114 = .ok (.iadd, 1) := by decide +kernel
theorem dX7_digest_115 : decode cX7_digest 115 = .ok (.imul, 1) := by decide +kernel
theorem dX7_digest_116 : decode cX7_digest 116 = .ok (.iload 5, 2) := by decide +kernel
theorem dX7_digest_118 : decode cX7_digest 118 = .ok (.iadd, 1) := by decide +kernel
theorem dX7_digest_119 : decode cX7_digest 119 = .ok (.laload, 1) := by decide +kernel
theorem dX7_digest_120 : decode cX7_digest 120 = .ok (.ladd, 1) := by decide +kernel
theorem dX7_digest_121 : decode cX7_digest 121 = .ok (.lstore_n 1, 1) := by decide +kernel
theorem dX7_digest_122 : decode cX7_digest 122 = .ok (.iinc 5 1, 3) := by decide +kernel
theorem dX7_digest_125 : decode cX7_digest 125 = .ok (.goto (-37), 3) := by decide +kernel
theorem dX7_digest_128 : decode cX7_digest 128 = .ok (.iinc 4 1, 3) := by decide +kernel
theorem dX7_digest_131 : decode cX7_digest 131 = .ok (.goto (-89), 3) := by decide +kernel
theorem dX7_digest_134 : decode cX7_digest 134 = .ok (.iinc 3 1, 3) := by decide +kernel
theorem dX7_digest_137 : decode cX7_digest 137 = .ok (.goto (-131), 3) := by decide +kernel
theorem dX7_digest_140 : decode cX7_digest 140 = .ok (.lload_n 1, 1) := by decide +kernel
theorem dX7_digest_141 : decode cX7_digest 141 = .ok (.lreturn, 1) := by decide +kernel
