theorem dX7_select_121 : decode cX7_select 121 = .ok (.invokevirtual 75, 3) := by decide +kernel
theorem dX7_select_124 : decode cX7_select 124 = .ok (.ifCond .ne 28, 3) := by decide +kernel
theorem dX7_select_127 : decode cX7_select 127 = .ok (.iload_n 3, 1) := by decide +kernel
theorem dX7_select_128 : decode cX7_select 128 = .ok (.aload_n 0, 1) := by decide +kernel
theorem dX7_select_129 : decode cX7_select 129 = .ok (.iload 5, 2) := by decide +kernel
theorem dX7_select_131 : decode cX7_select 131 = .ok (.iload 7, 2) := by decide +kernel
theorem dX7_select_133 : decode cX7_select 133 = .ok (.invokevirtual 75, 3) := by decide +kernel
theorem dX7_select_136 : decode cX7_select 136 = .ok (.ifCond .eq 7, 3) := by decide +kernel
theorem dX7_select_139 : decode cX7_select 139 = .ok (.iconst 1, 1) := by decide +kernel
theorem dX7_select_140 : decode cX7_select 140 = .ok (.goto 4, 3) := by decide +kernel
theorem dX7_select_143 : decode cX7_select 143 = .ok (.iconst 0, 1) := by decide +kernel
theorem dX7_select_144 : decode cX7_select 144 = .ok (.isub, 1) := by decide +kernel
theorem dX7_select_145 : decode cX7_select 145 = .ok (.istore_n 3, 1) := by decide +kernel
theorem dX7_select_146 : decode cX7_select 146 = .ok (.iinc 7 1, 3) := by decide +kernel
theorem dX7_select_149 : decode cX7_select 149 = .ok (.goto (-37), 3) := by decide +kernel
theorem dX7_select_152 : decode cX7_select 152 = .ok (.aload_n 0, 1) := by decide +kernel
theorem dX7_select_153 : decode cX7_select 153 = .ok (.iload 5, 2) := by decide +kernel
theorem dX7_select_155 : decode cX7_select 155 = .ok (.iload 7, 2) := by decide +kernel
theorem dX7_select_157 : decode cX7_select 157 = .ok (.invokevirtual 144, 3) := by decide +kernel
theorem dX7_select_160 : decode cX7_select 160 = .ok (.lreturn, 1) := by decide +kernel
theorem dX7_select_161 : decode cX7_select 161 = .ok (.iload_n 3, 1) := by decide +kernel
theorem dX7_select_162 : decode cX7_select 162 = .ok (.aload_n 0, 1) := by decide +kernel
theorem dX7_select_163 : decode cX7_select 163 = .ok (.getfield 19, 3) := by decide +kernel
theorem dX7_select_166 : decode cX7_select 166 = .ok (.iload 5, 2) := by decide +kernel
theorem dX7_select_168 : decode cX7_select 168 = .ok (.iaload, 1) := by decide +kernel
theorem dX7_select_169 : decode cX7_select 169 = .ok (.isub, 1) := by decide +kernel
theorem dX7_select_170 : decode cX7_select 170 = .ok (.istore_n 3, 1) := by decide +kernel
theorem dX7_select_171 : decode cX7_select 171 = .ok (.iinc 4 1, 3) := by decide +kernel
theorem dX7_select_174 : decode cX7_select 174 = .ok (.goto (-150), 3) := by decide +kernel
theorem dX7_select_177 : decode cX7_select 177 = .ok (.ldc2_w 52, 3) := by decide +kernel
theorem dX7_select_180 : decode cX7_select 180 = .ok (.lreturn, 1) := by decide +kernel
set_option maxRecDepth 20000 in
theorem ggX7_next_X7_isSet : GoodIn wsX7_next wsX7_isSet := goodIn_r _ [10, 11, 12, 13, 9, 14] rfl (by decide +kernel)
set_option maxRecDepth 20000 in
theorem gX7_next_X7_isSet : GoodIn wsX7_next (va_wsS RX7 66 yX7_isSet wsX7_isSet) := goodIn_app (goodIn_of _ (by decide +kernel)) ggX7_next_X7_isSet
set_option maxRecDepth 20000 in
theorem ggX7_next_X7_hasLow : GoodIn wsX7_next wsX7_hasLow := goodIn_r _ [18, 19, 25, 26, 27, 28, 29, 30, 31, 32, 33, 34, 35, 36, 37, 38, 39, 40] rfl (by decide +kernel)
set_option maxRecDepth 20000 in
theorem gX7_next_X7_hasLow : GoodIn wsX7_next (wsV RX7 75 RX7 yX7_hasLow wsX7_hasLow) := goodIn_app (goodIn_of _ (by decide +kernel)) ggX7_next_X7_hasLow
set_option maxRecDepth 20000 in
theorem ggX7_next_X7_numberOf : GoodIn wsX7_next wsX7_numberOf := goodIn_r _ [23, 24, 3, 25, 26, 27, 28, 29, 30, 31, 32, 33, 34, 35, 36, 37, 38, 39, 40] rfl (by decide +kernel)
set_option maxRecDepth 20000 in
theorem gX7_next_X7_numberOf : GoodIn wsX7_next (wsV RX7 144 RX7 yX7_numberOf wsX7_numberOf) := goodIn_app (goodIn_of _ (by decide +kernel)) ggX7_next_X7_numberOf
theorem dX7_next_0 : decode cX7_next 0 = .ok (.iload_n 1, 1) := by decide +kernel
theorem dX7_next_1 : decode cX7_next 1 = .ok (.invokestatic 66, 3) := by decide +kernel
theorem dX7_next_4 : decode cX7_next 4 = .ok (.ifCond .ne 7, 3) := by decide +kernel
theorem dX7_next_7 : decode cX7_next 7 = .ok (.ldc2_w 142, 3) := by decide +kernel
theorem dX7_next_10 : decode cX7_next 10 = .ok (.lreturn, 1) := by decide +kernel
theorem dX7_next_11 : decode cX7_next 11 = .ok (.iload_n 2, 1) := by decide +kernel
theorem dX7_next_12 : decode cX7_next 12 = .ok (.bipush 16, 2) := by decide +kernel
theorem dX7_next_14 : decode cX7_next 14 = .ok (.iushr, 1) := by decide +kernel
theorem dX7_next_15 : decode cX7_next 15 = .ok (.istore_n 3, 1) := by decide +kernel
theorem dX7_next_16 : decode cX7_next 16 = .ok (.iconst 0, 1) := by decide +kernel
theorem dX7_next_17 : decode cX7_next 17 = .ok (.istore 4, 2) := by decide +kernel
theorem dX7_next_19 : decode cX7_next 19 = .ok (.iload 4, 2) := by decide +kernel
theorem dX7_next_21 : decode cX7_next 21 = .ok (.aload_n 0, 1) := by decide +kernel
theorem dX7_next_22 : decode cX7_next 22 = .ok (.getfield 7, 3) := by decide +kernel
theorem dX7_next_25 : decode cX7_next 25 = .ok (.iload_n 1, 1) := by decide +kernel
theorem dX7_next_26 : decode cX7_next 26 = .ok (.iaload, 1) := by decide +kernel
theorem dX7_next_27 : decode cX7_next 27 = .ok (.if_icmp .ge 95, 3) := by decide +kernel
theorem dX7_next_30 : decode cX7_next 30 = .ok (.bipush 6, 2) := by decide +kernel
theorem dX7_next_32 : decode cX7_next 32 = .ok (.iload_n 1, 1) := by decide +kernel
theorem dX7_next_33 : decode cX7_next 33 = .ok (.imul, 1) := by decide +kernel
theorem dX7_next_34 : decode cX7_next 34 = .ok (.iload 4, 2) := by decide +kernel
theorem dX7_next_36 : decode cX7_next 36 = .ok (.iadd, 1) := by decide +kernel
theorem dX7_next_37 : decode cX7_next 37 = .ok (.istore 5, 2) := by decide +kernel
theorem dX7_next_39 : decode cX7_next 39 = .ok (.aload_n 0, 1) := by decide +kernel
theorem dX7_next_40 : decode cX7_next 40 = .ok (.getfield 13, 3) := by decide +kernel
theorem dX7_next_43 : decode cX7_next 43 = .ok (.iload 5, 2) := by decide +kernel
theorem dX7_next_45 : decode cX7_next 45 = .ok (.iaload, 1) := by decide +kernel
theorem dX7_next_46 : decode cX7_next 46 = .ok (.iload_n 3, 1) := by decide +kernel
theorem dX7_next_47 : decode cX7_next 47 = .ok (.if_icmp .ge 8, 3) := by decide +kernel
theorem dX7_next_50 : decode cX7_next 50 = .ok (.ldc 107, 2) := by decide +kernel
theorem dX7_next_52 : decode cX7_next 52 = .ok (.goto 22, 3) := by decide +kernel
theorem dX7_next_55 : decode cX7_next 55 = .ok (.aload_n 0, 1) := by decide +kernel
theorem dX7_next_56 : decode cX7_next 56 = .ok (.getfield 13, 3) := by decide +kernel
theorem dX7_next_59 : decode cX7_next 59 = .ok (.iload 5, 2) := by decide +kernel
theorem dX7_next_61 : decode cX7_next 61 = .ok (.iaload, 1) := by decide +kernel
theorem dX7_next_62 : decode cX7_next 62 = .ok (.iload_n 3, 1) := by decide +kernel
theorem dX7_next_63 : decode cX7_next 63 = .ok (.if_icmp .ne 10, 3) := by decide +kernel
theorem dX7_next_66 : decode cX7_next 66 = .ok (.iload_n 2, 1) := by decide +kernel
theorem dX7_next_67 : decode cX7_next 67 = .ok (.ldc 74, 2) := by decide +kernel
theorem dX7_next_69 : decode cX7_next 69 = .ok (.iand, 1) := by decide +kernel
theorem dX7_next_70 : decode cX7_next 70 = .ok (.goto 4, 3) := by decide +kernel
theorem dX7_next_73 : decode cX7_next 73 = .ok (.iconst 0, 1) := by decide +kernel
theorem dX7_next_74 : decode cX7_next 74 = .ok (.istore 6, 2) := by decide +kernel
theorem dX7_next_76 : decode cX7_next 76 = .ok (.iload 6, 2) := by decide +kernel
theorem dX7_next_78 : decode cX7_next 78 = .ok (.ldc 107, 2) := by decide +kernel
theorem dX7_next_80 : decode cX7_next 80 = .ok (.if_icmp .ge 20, 3) := by decide +kernel
theorem dX7_next_83 : decode cX7_next 83 = .ok (.aload_n 0, 1) := by decide +kernel
theorem dX7_next_84 : decode cX7_next 84 = .ok (.iload 5, 2) := by decide +kernel
theorem dX7_next_86 : decode cX7_next 86 = .ok (.iload 6, 2) := by decide +kernel
theorem dX7_next_88 : decode cX7_next 88 = .ok (.invokevirtual 75, 3) := by decide +kernel
theorem dX7_next_91 : decode cX7_next 91 = .ok (.ifCond .ne 9, 3) := by decide +kernel
theorem dX7_next_94 : decode cX7_next 94 = .ok (.iinc 6 1, 3) := by decide +kernel
theorem dX7_next_97 : decode cX7_next 97 = .ok (.goto (-21), 3) := by decide +kernel
theorem dX7_next_100 : decode cX7_next 100 = .ok (.iload 6, 2) := by decide +kernel
theorem dX7_next_102 : decode cX7_next 102 = .ok (.ldc 107, 2) := by decide +kernel
theorem dX7_next_104 : decode cX7_next 104 = .ok (.if_icmp .ge 12, 3) := by decide +kernel
theorem dX7_next_107 : decode cX7_next 107 = .ok (.aload_n 0, 1) := by decide +kernel
theorem dX7_next_108 : decode cX7_next 108 = .ok (.iload 5, 2) := by decide +kernel
theorem dX7_next_110 : decode cX7_next 110 = .ok (.iload 6, 2) := by decide +kernel
theorem dX7_next_112 : decode cX7_next 112 = .ok (.invokevirtual 144, 3) := by decide +kernel
theorem dX7_next_115 : decode cX7_next 115 = .ok (.lreturn, 1) := by decide +kernel
theorem dX7_next_116 : decode cX7_next 116 = .ok (.iinc 4 1, 3) := by decide +kernel
theorem dX7_next_119 : decode cX7_next 119 = .ok (.goto (-100), 3) := by decide +kernel
theorem dX7_next_122 : decode cX7_next 122 = .ok (.ldc2_w 52, 3) := by decide +kernel
theorem dX7_next_125 : decode cX7_next 125 = .ok (.lreturn, 1) := by decide +kernel
set_option maxRecDepth 20000 in
theorem ggX7_count_X7_isSet : GoodIn wsX7_count wsX7_isSet := goodIn_r _ [7, 8, 9, 10, 6, 11] rfl (by decide +kernel)
set_option maxRecDepth 20000 in
theorem gX7_count_X7_isSet : GoodIn wsX7_count (va_wsS RX7 66 yX7_isSet wsX7_isSet) := goodIn_app (goodIn_of _ (by decide +kernel)) ggX7_count_X7_isSet
set_option maxRecDepth 20000 in
theorem ggX7_count_X7_in : GoodIn wsX7_count wsX7_in := goodIn_r _ [11] rfl (by decide +kernel)
set_option maxRecDepth 20000 in
theorem gX7_count_X7_in : GoodIn wsX7_count (va_wsS RX7 46 yX7_in wsX7_in) := goodIn_app (goodIn_of _ (by decide +kernel)) ggX7_count_X7_in
set_option maxRecDepth 20000 in
theorem ggX7_count_X7_all : GoodIn wsX7_count wsX7_all := goodIn_r _ [15, 2, 16, 17, 18, 19, 20, 21, 22, 23, 24, 25, 26, 27, 28, 29, 30, 31, 32] rfl (by decide +kernel)
set_option maxRecDepth 20000 in
theorem gX7_count_X7_all : GoodIn wsX7_count (wsV RX7 88 RX7 yX7_all wsX7_all) := goodIn_app (goodIn_of _ (by decide +kernel)) ggX7_count_X7_all
theorem dX7_count_0 : decode cX7_count 0 = .ok (.iload_n 1, 1) := by decide +kernel
theorem dX7_count_1 : decode cX7_count 1 = .ok (.invokestatic 66, 3) := by decide +kernel
theorem dX7_count_4 : decode cX7_count 4 = .ok (.ifCond .eq 15, 3) := by decide +kernel
theorem dX7_count_7 : decode cX7_count 7 = .ok (.iload_n 2, 1) := by decide +kernel
theorem dX7_count_8 : decode cX7_count 8 = .ok (.i2l, 1) := by decide +kernel
theorem dX7_count_9 : decode cX7_count 9 = .ok (.lconst 0, 1) := by decide +kernel
theorem dX7_count_10 : decode cX7_count 10 = .ok (.ldc2_w 148, 3) := by decide +kernel
theorem dX7_count_13 : decode cX7_count 13 = .ok (.invokestatic 46, 3) := by decide +kernel
theorem dX7_count_16 : decode cX7_count 16 = .ok (.ifCond .ne 6, 3) := by decide +kernel
theorem dX7_count_19 : decode cX7_count 19 = .ok (.bipush (-2), 2) := by decide +kernel
theorem dX7_count_21 : decode cX7_count 21 = .ok (.ireturn, 1) := by decide +kernel
theorem dX7_count_22 : decode cX7_count 22 = .ok (.iload_n 2, 1) := by decide +kernel
theorem dX7_count_23 : decode cX7_count 23 = .ok (.ifCond .ne 9, 3) := by decide +kernel
theorem dX7_count_26 : decode cX7_count 26 = .ok (.aload_n 0, 1) := by decide +kernel
theorem dX7_count_27 : decode cX7_count 27 = .ok (.iload_n 1, 1) := by decide +kernel
theorem dX7_count_28 : decode cX7_count 28 = .ok (.invokevirtual 88, 3) := by decide +kernel
theorem dX7_count_31 : decode cX7_count 31 = .ok (.ireturn, 1) := by decide +kernel
theorem dX7_count_32 : decode cX7_count 32 = .ok (.iconst 0, 1) := by decide +kernel
theorem dX7_count_33 : decode cX7_count 33 = .ok (.istore_n 3, 1) := by decide +kernel
theorem dX7_count_34 : decode cX7_count 34 = .ok (.iconst 0, 1) := by decide +kernel
theorem dX7_count_35 : decode cX7_count 35 = .ok (.istore 4, 2) := by decide +kernel
theorem dX7_count_37 : decode cX7_count 37 = .ok (.iload 4, 2) := by decide +kernel
theorem dX7_count_39 : decode cX7_count 39 = .ok (.aload_n 0, 1) := by decide +kernel
theorem dX7_count_40 : decode cX7_count 40 = .ok (.getfield 7, 3) := by decide +kernel
theorem dX7_count_43 : decode cX7_count 43 = .ok (.iload_n 1, 1) := by decide +kernel
theorem dX7_count_44 : decode cX7_count 44 = .ok (.iaload, 1) := by decide +kernel
theorem dX7_count_45 : decode cX7_count 45 = .ok (.if_icmp .ge 40, 3) := by decide +kernel
theorem dX7_count_48 : decode cX7_count 48 = .ok (.iload_n 3, 1) := by decide +kernel
theorem dX7_count_49 : decode cX7_count 49 = .ok (.iload_n 2, 1) := by decide +kernel
theorem dX7_count_50 : decode cX7_count 50 = .ok (.iconst 1, 1) := by decide +kernel
theorem dX7_count_51 : decode cX7_count 51 = .ok (.if_icmp .eq 21, 3) := by decide +kernel
theorem dX7_count_54 : decode cX7_count 54 = .ok (.aload_n 0, 1) := by decide +kernel
theorem dX7_count_55 : decode cX7_count 55 = .ok (.getfield 16, 3) := by decide +kernel
theorem dX7_count_58 : decode cX7_count 58 = .ok (.bipush 6, 2) := by decide +kernel
theorem dX7_count_60 : decode cX7_count 60 = .ok (.iload_n 1, 1) := by decide +kernel
theorem dX7_count_61 : decode cX7_count 61 = .ok (.imul, 1) := by decide +kernel
theorem dX7_count_62 : decode cX7_count 62 = .ok (.iload 4, 2) := by decide +kernel
theorem dX7_count_64 : decode cX7_count 64 = .ok (.iadd, 1) := by decide +kernel
theorem dX7_count_65 : decode cX7_count 65 = .ok (.iaload, 1) := by decide +kernel
theorem dX7_count_66 : decode cX7_count 66 = .ok (.iload_n 2, 1) := by decide +kernel
theorem dX7_count_67 : decode cX7_count 67 = .ok (.iconst 2, 1) := by decide +kernel
theorem dX7_count_68 : decode cX7_count 68 = .ok (.isub, 1) := by decide +kernel
theorem dX7_count_69 : decode cX7_count 69 = .ok (.if_icmp .ne 7, 3) := by decide +kernel
theorem dX7_count_72 : decode cX7_count 72 = .ok (.iconst 1, 1) := by decide +kernel
theorem dX7_count_73 : decode cX7_count 73 = .ok (.goto 4, 3) := by decide +kernel
theorem dX7_count_76 : decode cX7_count 76 = .ok (.iconst 0, 1) := by decide +kernel
theorem dX7_count_77 : decode cX7_count 77 = .ok (.iadd, 1) := by decide +kernel
theorem dX7_count_78 : decode cX7_count 78 = .ok (.istore_n 3, 1) := by decide +kernel
theorem dX7_count_79 : decode cX7_count 79 = .ok (.iinc 4 1, 3) := by decide +kernel
theorem dX7_count_82 : decode cX7_count 82 = .ok (.goto (-45), 3) := by decide +kernel
theorem dX7_count_85 : decode cX7_count 85 = .ok (.iload_n 3, 1) := by decide +kernel
theorem dX7_count_86 : decode cX7_count 86 = .ok (.ireturn, 1) := by decide +kernel
set_option maxRecDepth 20000 in
theorem ggX7_container_X7_isSet : GoodIn wsX7_container wsX7_isSet := goodIn_r _ [9, 10, 11, 12, 8, 13] rfl (by decide +kernel)
set_option maxRecDepth 20000 in
theorem gX7_container_X7_isSet : GoodIn wsX7_container (va_wsS RX7 66 yX7_isSet wsX7_isSet) := goodIn_app (goodIn_of _ (by decide +kernel)) ggX7_container_X7_isSet
set_option maxRecDepth 20000 in
theorem ggX7_container_X7_in : GoodIn wsX7_container wsX7_in := goodIn_r _ [13] rfl (by decide +kernel)
set_option maxRecDepth 20000 in
theorem gX7_container_X7_in : GoodIn wsX7_container (va_wsS RX7 46 yX7_in wsX7_in) := goodIn_app (goodIn_of _ (by decide +kernel)) ggX7_container_X7_in
set_option maxRecDepth 20000 in
theorem ggX7_container_X7_runsOf : GoodIn wsX7_container wsX7_runsOf := goodIn_r _ [17, 18, 19, 20, 21, 8, 22, 23, 24, 25, 26, 27, 28, 29, 30, 31, 32, 33, 34, 35, 36, 37, 38] rfl (by decide +kernel)
set_option maxRecDepth 20000 in
theorem gX7_container_X7_runsOf : GoodIn wsX7_container (wsV RX7 121 RX7 yX7_runsOf wsX7_runsOf) := goodIn_app (goodIn_of _ (by decide +kernel)) ggX7_container_X7_runsOf
theorem dX7_container_0 : decode cX7_container 0 = .ok (.iload_n 1, 1) := by decide +kernel
theorem dX7_container_1 : decode cX7_container 1 = .ok (.invokestatic 66, 3) := by decide +kernel
theorem dX7_container_4 : decode cX7_container 4 = .ok (.ifCond .eq 33, 3) := by decide +kernel
theorem dX7_container_7 : decode cX7_container 7 = .ok (.iload_n 2, 1) := by decide +kernel
theorem dX7_container_8 : decode cX7_container 8 = .ok (.i2l, 1) := by decide +kernel
theorem dX7_container_9 : decode cX7_container 9 = .ok (.lconst 0, 1) := by decide +kernel
theorem dX7_container_10 : decode cX7_container 10 = .ok (.aload_n 0, 1) := by decide +kernel
theorem dX7_container_11 : decode cX7_container 11 = .ok (.getfield 7, 3) := by decide +kernel
theorem dX7_container_14 : decode cX7_container 14 = .ok (.iload_n 1, 1) := by decide +kernel
theorem dX7_container_15 : decode cX7_container 15 = .ok (.iaload, 1) := by decide +kernel
theorem dX7_container_16 : decode cX7_container 16 = .ok (.iconst 1, 1) := by decide +kernel
theorem dX7_container_17 : decode cX7_container 17 = .ok (.isub, 1) := by decide +kernel
theorem dX7_container_18 : decode cX7_container 18 = .ok (.i2l, 1) := by decide +kernel
theorem dX7_container_19 : decode cX7_container 19 = .ok (.invokestatic 46, 3) := by decide +kernel
theorem dX7_container_22 : decode cX7_container 22 = .ok (.ifCond .eq 15, 3) := by decide +kernel
theorem dX7_container_25 : decode cX7_container 25 = .ok (.iload_n 3, 1) := by decide +kernel
theorem dX7_container_26 : decode cX7_container 26 = .ok (.i2l, 1) := by decide +kernel
theorem dX7_container_27 : decode cX7_container 27 = .ok (.lconst 0, 1) := by decide +kernel
theorem dX7_container_28 : decode cX7_container 28 = .ok (.ldc2_w 112, 3) := by decide +kernel
theorem dX7_container_31 : decode cX7_container 31 = .ok (.invokestatic 46, 3) := by decide +kernel
theorem dX7_container_34 : decode cX7_container 34 = .ok (.ifCond .ne 6, 3) := by decide +kernel
theorem dX7_container_37 : decode cX7_container 37 = .ok (.bipush (-2), 2) := by decide +kernel
theorem dX7_container_39 : decode cX7_container 39 = .ok (.ireturn, 1) := by decide +kernel
theorem dX7_container_40 : decode cX7_container 40 = .ok (.bipush 6, 2) := by decide +kernel
theorem dX7_container_42 : decode cX7_container 42 = .ok (.iload_n 1, 1) := by decide +kernel
theorem dX7_container_43 : decode cX7_container 43 = .ok (.imul, 1) := by decide +kernel
theorem dX7_container_44 : decode cX7_container 44 = .ok (.iload_n 2, 1) := by decide +kernel
theorem dX7_container_45 : decode cX7_container 45 = .ok (.iadd, 1) := by decide +kernel
theorem dX7_container_46 : decode cX7_container 46 = .ok (.istore 4, 2) := by decide +kernel
theorem dX7_container_48 : decode cX7_container 48 = .ok (.iload_n 3, 1) := by decide +kernel
theorem dX7_container_49 : decode cX7_container 49 = .ok (.ifCond .ne 13, 3) := by decide +kernel
theorem dX7_container_52 : decode cX7_container 52 = .ok (.aload_n 0, 1) := by decide +kernel
theorem dX7_container_53 : decode cX7_container 53 = .ok (.getfield 13, 3) := by decide +kernel
theorem dX7_container_56 : decode cX7_container 56 = .ok (.iload 4, 2) := by decide +kernel
theorem dX7_container_58 : decode cX7_container 58 = .ok (.iaload, 1) := by decide +kernel
theorem dX7_container_59 : decode cX7_container 59 = .ok (.goto 39, 3) := by decide +kernel
theorem dX7_container_62 : decode cX7_container 62 = .ok (.iload_n 3, 1) := by decide +kernel
theorem dX7_container_63 : decode cX7_container 63 = .ok (.iconst 1, 1) := by decide +kernel
theorem dX7_container_64 : decode cX7_container 64 = .ok (.if_icmp .ne 13, 3) := by decide +kernel
theorem dX7_container_67 : decode cX7_container 67 = .ok (.aload_n 0, 1) := by decide +kernel
theorem dX7_container_68 : decode cX7_container 68 = .ok (.getfield 16, 3) := by decide +kernel
theorem dX7_container_71 : decode cX7_container 71 = .ok (.iload 4, 2) := by decide +kernel
theorem dX7_container_73 : decode cX7_container 73 = .ok (.iaload, 1) := by decide +kernel
theorem dX7_container_74 : decode cX7_container 74 = .ok (.goto 24, 3) := by decide +kernel
theorem dX7_container_77 : decode cX7_container 77 = .ok (.iload_n 3, 1) := by decide +kernel
theorem dX7_container_78 : decode cX7_container 78 = .ok (.iconst 2, 1) := by decide +kernel
theorem dX7_container_79 : decode cX7_container 79 = .ok (.if_icmp .ne 13, 3) := by decide +kernel
theorem dX7_container_82 : decode cX7_container 82 = .ok (.aload_n 0, 1) := by decide +kernel
theorem dX7_container_83 : decode cX7_container 83 = .ok (.getfield 19, 3) := by decide +kernel
theorem dX7_container_86 : decode cX7_container 86 = .ok (.iload 4, 2) := by decide +kernel
theorem dX7_container_88 : decode cX7_container 88 = .ok (.iaload, 1) := by decide +kernel
theorem dX7_container_89 : decode cX7_container 89 = .ok (.goto 9, 3) := by decide +kernel
theorem dX7_container_92 : decode cX7_container 92 = .ok (.aload_n 0, 1) := by decide +kernel
theorem dX7_container_93 : decode cX7_container 93 = .ok (.iload 4, 2) := by decide +kernel
theorem dX7_container_95 : decode cX7_container 95 = .ok (.invokevirtual 121, 3) := by decide +kernel
theorem dX7_container_98 : decode cX7_container 98 = .ok (.ireturn, 1) := by decide +kernel
set_option maxRecDepth 20000 in
theorem ggX7_both_X7_containerOf : GoodIn wsX7_both wsX7_containerOf := goodIn_r _ [8, 1, 2, 12, 13, 14, 15, 16, 17, 18, 19, 20, 21, 22, 23, 24, 25, 26, 27] rfl (by decide +kernel)
set_option maxRecDepth 20000 in
theorem gX7_both_X7_containerOf : GoodIn wsX7_both (wsV RX7 70 RX7 yX7_containerOf wsX7_containerOf) := goodIn_app (goodIn_of _ (by decide +kernel)) ggX7_both_X7_containerOf
set_option maxRecDepth 20000 in
theorem ggX7_both_X7_bitsOf : GoodIn wsX7_both wsX7_bitsOf := goodIn_r _ [11] rfl (by decide +kernel)
set_option maxRecDepth 20000 in
theorem gX7_both_X7_bitsOf : GoodIn wsX7_both (va_wsS RX7 54 yX7_bitsOf wsX7_bitsOf) := goodIn_app (goodIn_of _ (by decide +kernel)) ggX7_both_X7_bitsOf
theorem dX7_both_0 : decode cX7_both 0 = .ok (.iconst 0, 1) := by decide +kernel
theorem dX7_both_1 : decode cX7_both 1 = .ok (.istore_n 3, 1) := by decide +kernel
theorem dX7_both_2 : decode cX7_both 2 = .ok (.iconst 0, 1) := by decide +kernel
theorem dX7_both_3 : decode cX7_both 3 = .ok (.istore 4, 2) := by decide +kernel
theorem dX7_both_5 : decode cX7_both 5 = .ok (.iload 4, 2) := by decide +kernel
theorem dX7_both_7 : decode cX7_both 7 = .ok (.aload_n 0, 1) := by decide +kernel
theorem dX7_both_8 : decode cX7_both 8 = .ok (.getfield 7, 3) := by decide +kernel
theorem dX7_both_11 : decode cX7_both 11 = .ok (.iload_n 1, 1) := by decide +kernel
theorem dX7_both_12 : decode cX7_both 12 = .ok (.iaload, 1) := by decide +kernel
theorem dX7_both_13 : decode cX7_both 13 = .ok (.if_icmp .ge 90, 3) := by decide +kernel
theorem dX7_both_16 : decode cX7_both 16 = .ok (.bipush 6, 2) := by decide +kernel
theorem dX7_both_18 : decode cX7_both 18 = .ok (.iload_n 1, 1) := by decide +kernel
theorem dX7_both_19 : decode cX7_both 19 = .ok (.imul, 1) := by decide +kernel
theorem dX7_both_20 : decode cX7_both 20 = .ok (.iload 4, 2) := by decide +kernel
theorem dX7_both_22 : decode cX7_both 22 = .ok (.iadd, 1) := by decide +kernel
theorem dX7_both_23 : decode cX7_both 23 = .ok (.istore 5, 2) := by decide +kernel
theorem dX7_both_25 : decode cX7_both 25 = .ok (.aload_n 0, 1) := by decide +kernel
theorem dX7_both_26 : decode cX7_both 26 = .ok (.iload_n 2, 1) := by decide +kernel
theorem dX7_both_27 : decode cX7_both 27 = .ok (.aload_n 0, 1) := by decide +kernel
theorem dX7_both_28 : decode cX7_both 28 = .ok (.getfield 13, 3) := by decide +kernel
theorem dX7_both_31 : decode cX7_both 31 = .ok (.iload 5, 2) := by decide +kernel
theorem dX7_both_33 : decode cX7_both 33 = .ok (.iaload, 1) := by decide +kernel
theorem dX7_both_34 : decode cX7_both 34 = .ok (.invokevirtual 70, 3) := by decide +kernel
theorem dX7_both_37 : decode cX7_both 37 = .ok (.istore 6, 2) := by decide +kernel
theorem dX7_both_39 : decode cX7_both 39 = .ok (.iconst 0, 1) := by decide +kernel
theorem dX7_both_40 : decode cX7_both 40 = .ok (.istore 7, 2) := by decide +kernel
theorem dX7_both_42 : decode cX7_both 42 = .ok (.iload 7, 2) := by decide +kernel
theorem dX7_both_44 : decode cX7_both 44 = .ok (.sipush 1024, 3) := by decide +kernel
theorem dX7_both_47 : decode cX7_both 47 = .ok (.if_icmp .ge 50, 3) := by decide +kernel
theorem dX7_both_50 : decode cX7_both 50 = .ok (.iload 6, 2) := by decide +kernel
theorem dX7_both_52 : decode cX7_both 52 = .ok (.iconst (-1), 1) := by decide +kernel
theorem dX7_both_53 : decode cX7_both 53 = .ok (.if_icmp .eq 44, 3) := by decide +kernel
theorem dX7_both_56 : decode cX7_both 56 = .ok (.iload_n 3, 1) := by decide +kernel
theorem dX7_both_57 : decode cX7_both 57 = .ok (.aload_n 0, 1) := by decide +kernel
theorem dX7_both_58 : decode cX7_both 58 = .ok (.getfield 23, 3) := by decide +kernel
theorem dX7_both_61 : decode cX7_both 61 = .ok (.sipush 1024, 3) := by decide +kernel
theorem dX7_both_64 : decode cX7_both 64 = .ok (.iload 5, 2) := by decide +kernel
theorem dX7_both_66 : decode cX7_both 66 = .ok (.imul, 1) := by decide +kernel
theorem dX7_both_67 : decode cX7_both 67 = .ok (.iload 7, 2) := by decide +kernel
theorem dX7_both_69 : decode cX7_both 69 = .ok (.iadd, 1) := by decide +kernel
theorem dX7_both_70 : decode cX7_both 70 = .ok (.laload, 1) := by decide +kernel
theorem dX7_both_71 : decode cX7_both 71 = .ok (.aload_n 0, 1) := by decide +kernel
theorem dX7_both_72 : decode cX7_both 72 = .ok (.getfield 23, 3) := by decide +kernel
theorem dX7_both_75 : decode cX7_both 75 = .ok (.sipush 1024, 3) := by decide +kernel
theorem dX7_both_78 : decode cX7_both 78 = .ok (.iload 6, 2) := by decide +kernel
theorem dX7_both_80 : decode cX7_both 80 = .ok (.imul, 1) := by decide +kernel
theorem dX7_both_81 : decode cX7_both 81 = .ok (.iload 7, 2) := by decide +kernel
theorem dX7_both_83 : decode cX7_both 83 = .ok (.iadd, 1) := by decide +kernel
theorem dX7_both_84 : decode cX7_both 84 = .ok (.laload, 1) := by decide +kernel
theorem dX7_both_85 : decode cX7_both 85 = .ok (.land, 1) := by decide +kernel
theorem dX7_both_86 : decode cX7_both 86 = .ok (.invokestatic 54, 3) := by decide +kernel
theorem dX7_both_89 : decode cX7_both 89 = .ok (.iadd, 1) := by decide +kernel
theorem dX7_both_90 : decode cX7_both 90 = .ok (.istore_n 3, 1) := by decide +kernel
theorem dX7_both_91 : decode cX7_both 91 = .ok (.iinc 7 1, 3) := by decide +kernel
theorem dX7_both_94 : decode cX7_both 94 = .ok (.goto (-52), 3) := by decide +kernel
theorem dX7_both_97 : decode cX7_both 97 = .ok (.iinc 4 1, 3) := by decide +kernel
theorem dX7_both_100 : decode cX7_both 100 = .ok (.goto (-95), 3) := by decide +kernel
theorem dX7_both_103 : decode cX7_both 103 = .ok (.iload_n 3, 1) := by decide +kernel
theorem dX7_both_104 : decode cX7_both 104 = .ok (.ireturn, 1) := by decide +kernel
set_option maxRecDepth 20000 in
theorem ggX7_compare_X7_isSet : GoodIn wsX7_compare wsX7_isSet := goodIn_r _ [4, 5, 6, 7, 3, 8] rfl (by decide +kernel)
set_option maxRecDepth 20000 in
theorem gX7_compare_X7_isSet : GoodIn wsX7_compare (va_wsS RX7 66 yX7_isSet wsX7_isSet) := goodIn_app (goodIn_of _ (by decide +kernel)) ggX7_compare_X7_isSet
set_option maxRecDepth 20000 in
theorem ggX7_compare_X7_both : GoodIn wsX7_compare wsX7_both := goodIn_r _ [12, 13, 14, 15, 16, 17, 18, 3, 19, 20, 21, 22, 28, 29, 30, 31, 32, 33, 34, 35, 36, 37, 38, 39, 40, 41, 42, 43] rfl (by decide +kernel)
set_option maxRecDepth 20000 in
theorem gX7_compare_X7_both : GoodIn wsX7_compare (wsV RX7 150 RX7 yX7_both wsX7_both) := goodIn_app (goodIn_of _ (by decide +kernel)) ggX7_compare_X7_both
set_option maxRecDepth 20000 in
theorem ggX7_compare_X7_all : GoodIn wsX7_compare wsX7_all := goodIn_r _ [26, 13, 27, 28, 29, 30, 31, 32, 33, 34, 35, 36, 37, 38, 39, 40, 41, 42, 43] rfl (by decide +kernel)
set_option maxRecDepth 20000 in
theorem gX7_compare_X7_all : GoodIn wsX7_compare (wsV RX7 88 RX7 yX7_all wsX7_all) := goodIn_app (goodIn_of _ (by decide +kernel)) ggX7_compare_X7_all
theorem dX7_compare_0 : decode cX7_compare 0 = .ok (.iload_n 1, 1) := by decide +kernel
theorem dX7_compare_1 : decode cX7_compare 1 = .ok (.invokestatic 66, 3) := by decide +kernel
theorem dX7_compare_4 : decode cX7_compare 4 = .ok (.ifCond .eq 10, 3) := by decide +kernel
theorem dX7_compare_7 : decode cX7_compare 7 = .ok (.iload_n 2, 1) := by decide +kernel
theorem dX7_compare_8 : decode cX7_compare 8 = .ok (.invokestatic 66, 3) := by decide +kernel
theorem dX7_compare_11 : decode cX7_compare 11 = .ok (.ifCond .ne 6, 3) := by decide +kernel
theorem dX7_compare_14 : decode cX7_compare 14 = .ok (.bipush (-2), 2) := by decide +kernel
theorem dX7_compare_16 : decode cX7_compare 16 = .ok (.ireturn, 1) := by decide +kernel
theorem dX7_compare_17 : decode cX7_compare 17 = .ok (.aload_n 0, 1) := by decide +kernel
theorem dX7_compare_18 : decode cX7_compare 18 = .ok (.iload_n 1, 1) := by decide +kernel
theorem dX7_compare_19 : decode cX7_compare 19 = .ok (.iload_n 2, 1) := by decide +kernel
theorem dX7_compare_20 : decode cX7_compare 20 = .ok (.invokevirtual 150, 3) := by decide +kernel
theorem dX7_compare_23 : decode cX7_compare 23 = .ok (.istore_n 3, 1) := by decide +kernel
theorem dX7_compare_24 : decode cX7_compare 24 = .ok (.aload_n 0, 1) := by decide +kernel
theorem dX7_compare_25 : decode cX7_compare 25 = .ok (.iload_n 1, 1) := by decide +kernel
theorem dX7_compare_26 : decode cX7_compare 26 = .ok (.invokevirtual 88, 3) := by decide +kernel
theorem dX7_compare_29 : decode cX7_compare 29 = .ok (.istore 4, 2) := by decide +kernel
theorem dX7_compare_31 : decode cX7_compare 31 = .ok (.aload_n 0, 1) := by decide +kernel
theorem dX7_compare_32 : decode cX7_compare 32 = .ok (.iload_n 2, 1) := by decide +kernel
theorem dX7_compare_33 : decode cX7_compare 33 = .ok (.invokevirtual 88, 3) := by decide +kernel
theorem dX7_compare_36 : decode cX7_compare 36 = .ok (.istore 5, 2) := by decide +kernel
theorem dX7_compare_38 : decode cX7_compare 38 = .ok (.iload_n 3, 1) := by decide +kernel
theorem dX7_compare_39 : decode cX7_compare 39 = .ok (.iload 4, 2) := by decide +kernel
theorem dX7_compare_41 : decode cX7_compare 41 = .ok (.if_icmp .ne 13, 3) := by decide +kernel
theorem dX7_compare_44 : decode cX7_compare 44 = .ok (.iload_n 3, 1) := by decide +kernel
theorem dX7_compare_45 : decode cX7_compare 45 = .ok (.iload 5, 2) := by decide +kernel
theorem dX7_compare_47 : decode cX7_compare 47 = .ok (.if_icmp .ne 7, 3) := by decide +kernel
theorem dX7_compare_50 : decode cX7_compare 50 = .ok (.iconst 2, 1) := by decide +kernel
theorem dX7_compare_51 : decode cX7_compare 51 = .ok (.goto 32, 3) := by decide +kernel
theorem dX7_compare_54 : decode cX7_compare 54 = .ok (.iload_n 3, 1) := by decide +kernel
theorem dX7_compare_55 : decode cX7_compare 55 = .ok (.iload 4, 2) := by decide +kernel
theorem dX7_compare_57 : decode cX7_compare 57 = .ok (.if_icmp .ne 7, 3) := by decide +kernel
theorem dX7_compare_60 : decode cX7_compare 60 = .ok (.iconst 3, 1) := by decide +kernel
theorem dX7_compare_61 : decode cX7_compare 61 = .ok (.goto 22, 3) := by decide +kernel
theorem dX7_compare_64 : decode cX7_compare 64 = .ok (.iload_n 3, 1) := by decide +kernel
theorem dX7_compare_65 : decode cX7_compare 65 = .ok (.iload 5, 2) := by decide +kernel
theorem dX7_compare_67 : decode cX7_compare 67 = .ok (.if_icmp .ne 7, 3) := by decide +kernel
theorem dX7_compare_70 : decode cX7_compare 70 = .ok (.iconst 4, 1) := by decide +kernel
theorem dX7_compare_71 : decode cX7_compare 71 = .ok (.goto 12, 3) := by decide +kernel
theorem dX7_compare_74 : decode cX7_compare 74 = .ok (.iload_n 3, 1) := by decide +kernel
theorem dX7_compare_75 : decode cX7_compare 75 = .ok (.ifCond .ne 7, 3) := by decide +kernel
theorem dX7_compare_78 : decode cX7_compare 78 = .ok (.iconst 0, 1) := by decide +kernel
theorem dX7_compare_79 : decode cX7_compare 79 = .ok (.goto 4, 3) := by decide +kernel
theorem dX7_compare_82 : decode cX7_compare 82 = .ok (.iconst 1, 1) := by decide +kernel
theorem dX7_compare_83 : decode cX7_compare 83 = .ok (.ireturn, 1) := by decide +kernel
theorem dX7_put_0 : decode cX7_put 0 = .ok (.iconst 0, 1) := by decide +kernel
theorem dX7_put_1 : decode cX7_put 1 = .ok (.istore_n 3, 1) := by decide +kernel
theorem dX7_put_2 : decode cX7_put 2 = .ok (.iload_n 3, 1) := by decide +kernel
theorem dX7_put_3 : decode cX7_put 3 = .ok (.iload_n 2, 1) := by decide +kernel
theorem dX7_put_4 : decode cX7_put 4 = .ok (.if_icmp .ge 38, 3) := by decide +kernel
theorem dX7_put_7 : decode cX7_put 7 = .ok (.aload_n 0, 1) := by decide +kernel
theorem dX7_put_8 : decode cX7_put 8 = .ok (.getfield 32, 3) := by decide +kernel
theorem dX7_put_11 : decode cX7_put 11 = .ok (.aload_n 0, 1) := by decide +kernel
theorem dX7_put_12 : decode cX7_put 12 = .ok (.getfield 153, 3) := by decide +kernel
theorem dX7_put_15 : decode cX7_put 15 = .ok (.iload_n 1, 1) := by decide +kernel
theorem dX7_put_16 : decode cX7_put 16 = .ok (.bipush 8, 2) := by decide +kernel
theorem dX7_put_18 : decode cX7_put 18 = .ok (.iload_n 3, 1) := by decide +kernel
theorem dX7_put_19 : decode cX7_put 19 = .ok (.imul, 1) := by decide +kernel
theorem dX7_put_20 : decode cX7_put 20 = .ok (.iushr, 1) := by decide +kernel
theorem dX7_put_21 : decode cX7_put 21 = .ok (.sipush 255, 3) := by decide +kernel
theorem dX7_put_24 : decode cX7_put 24 = .ok (.iand, 1) := by decide +kernel
theorem dX7_put_25 : decode cX7_put 25 = .ok (.iastore, 1) := by decide +kernel
theorem dX7_put_26 : decode cX7_put 26 = .ok (.aload_n 0, 1) := by decide +kernel
theorem dX7_put_27 : decode cX7_put 27 = .ok (.dup, 1) := by decide +kernel
theorem dX7_put_28 : decode cX7_put 28 = .ok (.getfield 153, 3) := by decide +kernel
theorem dX7_put_31 : decode cX7_put 31 = .ok (.iconst 1, 1) := by decide +kernel
theorem dX7_put_32 : decode cX7_put 32 = .ok (.iadd, 1) := by decide +kernel
theorem dX7_put_33 : decode cX7_put 33 = .ok (.putfield 153, 3) := by decide +kernel
theorem dX7_put_36 : decode cX7_put 36 = .ok (.iinc 3 1, 3) := by decide +kernel
theorem dX7_put_39 : decode cX7_put 39 = .ok (.goto (-37), 3) := by decide +kernel
theorem dX7_put_42 : decode cX7_put 42 = .ok (.return_, 1) := by decide +kernel
set_option maxRecDepth 20000 in
theorem ggX7_hasRuns_X7_count : GoodIn wsX7_hasRuns wsX7_count := goodIn_r _ [5, 6, 7, 8, 9, 10, 4, 11, 12, 13, 14, 15, 16, 17, 18, 19, 20, 21, 22, 23, 24, 25, 26, 27, 28, 29, 30, 31, 32, 33, 34, 35, 36] rfl (by decide +kernel)
set_option maxRecDepth 20000 in
theorem gX7_hasRuns_X7_count : GoodIn wsX7_hasRuns (wsV RX7 156 RX7 yX7_count wsX7_count) := goodIn_app (goodIn_of _ (by decide +kernel)) ggX7_hasRuns_X7_count
theorem dX7_hasRuns_0 : decode cX7_hasRuns 0 = .ok (.aload_n 0, 1) := by decide +kernel
theorem dX7_hasRuns_1 : decode cX7_hasRuns 1 = .ok (.iload_n 1, 1) := by decide +kernel
theorem dX7_hasRuns_2 : decode cX7_hasRuns 2 = .ok (.iconst 4, 1) := by decide +kernel
theorem dX7_hasRuns_3 : decode cX7_hasRuns 3 = .ok (.invokevirtual 156, 3) := by decide +kernel
theorem dX7_hasRuns_6 : decode cX7_hasRuns 6 = .ok (.ifCond .le 7, 3) := by decide +kernel
theorem dX7_hasRuns_9 : decode cX7_hasRuns 9 = .ok (.iconst 1, 1) := by decide +kernel
theorem dX7_hasRuns_10 : decode cX7_hasRuns 10 = .ok (.goto 4, 3) := by decide +kernel
theorem dX7_hasRuns_13 : decode cX7_hasRuns 13 = .ok (.iconst 0, 1) := by decide +kernel
theorem dX7_hasRuns_14 : decode cX7_hasRuns 14 = .ok (.ireturn, 1) := by decide +kernel
set_option maxRecDepth 20000 in
theorem ggX7_lengthOf_X7_runsOf : GoodIn wsX7_lengthOf wsX7_runsOf := goodIn_r _ [7, 8, 9, 10, 11, 6, 12, 13, 14, 15, 16, 17, 18, 19, 20, 21, 22, 23, 24, 25, 26, 27, 28] rfl (by decide +kernel)
set_option maxRecDepth 20000 in
theorem gX7_lengthOf_X7_runsOf : GoodIn wsX7_lengthOf (wsV RX7 121 RX7 yX7_runsOf wsX7_runsOf) := goodIn_app (goodIn_of _ (by decide +kernel)) ggX7_lengthOf_X7_runsOf
theorem dX7_lengthOf_0 : decode cX7_lengthOf 0 = .ok (.aload_n 0, 1) := by decide +kernel
theorem dX7_lengthOf_1 : decode cX7_lengthOf 1 = .ok (.getfield 16, 3) := by decide +kernel
theorem dX7_lengthOf_4 : decode cX7_lengthOf 4 = .ok (.iload_n 1, 1) := by decide +kernel
theorem dX7_lengthOf_5 : decode cX7_lengthOf 5 = .ok (.iaload, 1) := by decide +kernel
theorem dX7_lengthOf_6 : decode cX7_lengthOf 6 = .ok (.ifCond .ne 14, 3) := by decide +kernel
theorem dX7_lengthOf_9 : decode cX7_lengthOf 9 = .ok (.iconst 2, 1) := by decide +kernel
theorem dX7_lengthOf_10 : decode cX7_lengthOf 10 = .ok (.aload_n 0, 1) := by decide +kernel
theorem dX7_lengthOf_11 : decode cX7_lengthOf 11 = .ok (.getfield 19, 3) := by decide +kernel
theorem dX7_lengthOf_14 : decode cX7_lengthOf 14 = .ok (.iload_n 1, 1) := by decide +kernel
theorem dX7_lengthOf_15 : decode cX7_lengthOf 15 = .ok (.iaload, 1) := by decide +kernel
theorem dX7_lengthOf_16 : decode cX7_lengthOf 16 = .ok (.imul, 1) := by decide +kernel
theorem dX7_lengthOf_17 : decode cX7_lengthOf 17 = .ok (.goto 28, 3) := by decide +kernel
theorem dX7_lengthOf_20 : decode cX7_lengthOf 20 = .ok (.aload_n 0, 1) := by decide +kernel
theorem dX7_lengthOf_21 : decode cX7_lengthOf 21 = .ok (.getfield 16, 3) := by decide +kernel
theorem dX7_lengthOf_24 : decode cX7_lengthOf 24 = .ok (.iload_n 1, 1) := by decide +kernel
theorem dX7_lengthOf_25 : decode cX7_lengthOf 25 = .ok (.iaload, 1) := by decide +kernel
theorem dX7_lengthOf_26 : decode cX7_lengthOf 26 = .ok (.iconst 1, 1) := by decide +kernel
theorem dX7_lengthOf_27 : decode cX7_lengthOf 27 = .ok (.if_icmp .ne 9, 3) := by decide +kernel
theorem dX7_lengthOf_30 : decode cX7_lengthOf 30 = .ok (.sipush 8192, 3) := by decide +kernel
theorem dX7_lengthOf_33 : decode cX7_lengthOf 33 = .ok (.goto 12, 3) := by decide +kernel
theorem dX7_lengthOf_36 : decode cX7_lengthOf 36 = .ok (.iconst 2, 1) := by decide +kernel
theorem dX7_lengthOf_37 : decode cX7_lengthOf 37 = .ok (.iconst 4, 1) := by decide +kernel
theorem dX7_lengthOf_38 : decode cX7_lengthOf 38 = .ok (.aload_n 0, 1) := by decide +kernel
theorem dX7_lengthOf_39 : decode cX7_lengthOf 39 = .ok (.iload_n 1, 1) := by decide +kernel
theorem dX7_lengthOf_40 : decode cX7_lengthOf 40 = .ok (.invokevirtual 121, 3) := by decide +kernel
theorem dX7_lengthOf_43 : decode cX7_lengthOf 43 = .ok (.imul, 1) := by decide +kernel
theorem dX7_lengthOf_44 : decode cX7_lengthOf 44 = .ok (.iadd, 1) := by decide +kernel
theorem dX7_lengthOf_45 : decode cX7_lengthOf 45 = .ok (.ireturn, 1) := by decide +kernel
set_option maxRecDepth 20000 in
theorem ggX7_headOf_X7_hasRuns : GoodIn wsX7_headOf wsX7_hasRuns := goodIn_r _ [6, 7, 8, 9, 5, 10, 11, 1, 12, 13, 14, 15, 16, 17, 18, 19, 20, 21, 22, 23, 24, 25, 26, 27, 28, 29, 30, 31, 32, 33, 34, 35, 36, 37, 38, 39, 40] rfl (by decide +kernel)
set_option maxRecDepth 20000 in
theorem gX7_headOf_X7_hasRuns : GoodIn wsX7_headOf (wsV RX7 159 RX7 yX7_hasRuns wsX7_hasRuns) := goodIn_app (goodIn_of _ (by decide +kernel)) ggX7_headOf_X7_hasRuns
theorem dX7_headOf_0 : decode cX7_headOf 0 = .ok (.aload_n 0, 1) := by decide +kernel
theorem dX7_headOf_1 : decode cX7_headOf 1 = .ok (.getfield 7, 3) := by decide +kernel
theorem dX7_headOf_4 : decode cX7_headOf 4 = .ok (.iload_n 1, 1) := by decide +kernel
theorem dX7_headOf_5 : decode cX7_headOf 5 = .ok (.iaload, 1) := by decide +kernel
theorem dX7_headOf_6 : decode cX7_headOf 6 = .ok (.istore_n 2, 1) := by decide +kernel
theorem dX7_headOf_7 : decode cX7_headOf 7 = .ok (.aload_n 0, 1) := by decide +kernel
theorem dX7_headOf_8 : decode cX7_headOf 8 = .ok (.iload_n 1, 1) := by decide +kernel
theorem dX7_headOf_9 : decode cX7_headOf 9 = .ok (.invokevirtual 159, 3) := by decide +kernel
theorem dX7_headOf_12 : decode cX7_headOf 12 = .ok (.istore_n 3, 1) := by decide +kernel
theorem dX7_headOf_13 : decode cX7_headOf 13 = .ok (.iload_n 3, 1) := by decide +kernel
theorem dX7_headOf_14 : decode cX7_headOf 14 = .ok (.ifCond .eq 7, 3) := by decide +kernel
theorem dX7_headOf_17 : decode cX7_headOf 17 = .ok (.iconst 5, 1) := by decide +kernel
theorem dX7_headOf_18 : decode cX7_headOf 18 = .ok (.goto 5, 3) := by decide +kernel
theorem dX7_headOf_21 : decode cX7_headOf 21 = .ok (.bipush 8, 2) := by decide +kernel
theorem dX7_headOf_23 : decode cX7_headOf 23 = .ok (.iconst 4, 1) := by decide +kernel
theorem dX7_headOf_24 : decode cX7_headOf 24 = .ok (.iload_n 2, 1) := by decide +kernel
theorem dX7_headOf_25 : decode cX7_headOf 25 = .ok (.imul, 1) := by decide +kernel
theorem dX7_headOf_26 : decode cX7_headOf 26 = .ok (.iadd, 1) := by decide +kernel
theorem dX7_headOf_27 : decode cX7_headOf 27 = .ok (.iload_n 3, 1) := by decide +kernel
theorem dX7_headOf_28 : decode cX7_headOf 28 = .ok (.ifCond .eq 8, 3) := by decide +kernel
theorem dX7_headOf_31 : decode cX7_headOf 31 = .ok (.iload_n 2, 1) := by decide +kernel
theorem dX7_headOf_32 : decode cX7_headOf 32 = .ok (.iconst 4, 1) := by decide +kernel
theorem dX7_headOf_33 : decode cX7_headOf 33 = .ok (.if_icmp .lt 9, 3) := by decide +kernel
theorem dX7_headOf_36 : decode cX7_headOf 36 = .ok (.iconst 4, 1) := by decide +kernel
theorem dX7_headOf_37 : decode cX7_headOf 37 = .ok (.iload_n 2, 1) := by decide +kernel
theorem dX7_headOf_38 : decode cX7_headOf 38 = .ok (.imul, 1) := by decide +kernel
theorem dX7_headOf_39 : decode cX7_headOf 39 = .ok (.goto 4, 3) := by decide +kernel
theorem dX7_headOf_42 : decode cX7_headOf 42 = .ok (.iconst 0, 1) := by decide +kernel
theorem dX7_headOf_43 : decode cX7_headOf 43 = .ok (.iadd, 1) := by decide +kernel
theorem dX7_headOf_44 : decode cX7_headOf 44 = .ok (.ireturn, 1) := by decide +kernel
set_option maxRecDepth 20000 in
theorem ggX7_write_X7_isSet : GoodIn wsX7_write wsX7_isSet := goodIn_r _ [11, 12, 13, 14, 10, 15] rfl (by decide +kernel)
set_option maxRecDepth 20000 in
theorem gX7_write_X7_isSet : GoodIn wsX7_write (va_wsS RX7 66 yX7_isSet wsX7_isSet) := goodIn_app (goodIn_of _ (by decide +kernel)) ggX7_write_X7_isSet
set_option maxRecDepth 20000 in
theorem ggX7_write_X7_headOf : GoodIn wsX7_write wsX7_headOf := goodIn_r _ [19, 1, 20, 21, 22, 10, 23, 24, 25, 26, 27, 28, 4, 8, 9, 11, 12, 13, 14, 15, 29, 30, 31, 32, 6, 60, 61, 62, 63, 64, 65, 66, 67, 68, 69, 70, 71, 72, 73, 74, 75] rfl (by decide +kernel)
set_option maxRecDepth 20000 in
theorem gX7_write_X7_headOf : GoodIn wsX7_write (wsV RX7 162 RX7 yX7_headOf wsX7_headOf) := goodIn_app (goodIn_of _ (by decide +kernel)) ggX7_write_X7_headOf
set_option maxRecDepth 20000 in
theorem ggX7_write_X7_lengthOf : GoodIn wsX7_write wsX7_lengthOf := goodIn_r _ [36, 4, 6, 37, 38, 39, 10, 40, 41, 42, 43, 44, 45, 60, 61, 62, 63, 64, 65, 66, 67, 68, 69, 70, 71, 72, 73, 74, 75] rfl (by decide +kernel)
set_option maxRecDepth 20000 in
theorem gX7_write_X7_lengthOf : GoodIn wsX7_write (wsV RX7 165 RX7 yX7_lengthOf wsX7_lengthOf) := goodIn_app (goodIn_of _ (by decide +kernel)) ggX7_write_X7_lengthOf
set_option maxRecDepth 20000 in
theorem ggX7_write_X7_hasRuns : GoodIn wsX7_write wsX7_hasRuns := goodIn_r _ [23, 24, 25, 26, 10, 27, 28, 1, 4, 8, 9, 11, 12, 13, 14, 15, 29, 30, 31, 32, 6, 60, 61, 62, 63, 64, 65, 66, 67, 68, 69, 70, 71, 72, 73, 74, 75] rfl (by decide +kernel)
set_option maxRecDepth 20000 in
theorem gX7_write_X7_hasRuns : GoodIn wsX7_write (wsV RX7 159 RX7 yX7_hasRuns wsX7_hasRuns) := goodIn_app (goodIn_of _ (by decide +kernel)) ggX7_write_X7_hasRuns
set_option maxRecDepth 20000 in
theorem ggX7_write_X7_put : GoodIn wsX7_write wsX7_put := goodIn_r _ [49, 50, 3, 60, 61, 62, 63, 64, 65, 66, 67, 68, 69, 70, 71, 72, 73, 74, 75] rfl (by decide +kernel)
set_option maxRecDepth 20000 in
theorem gX7_write_X7_put : GoodIn wsX7_write (wsV RX7 168 RX7 yX7_put wsX7_put) := goodIn_app (goodIn_of _ (by decide +kernel)) ggX7_write_X7_put
set_option maxRecDepth 20000 in
theorem ggX7_write_X7_writeOne : GoodIn wsX7_write wsX7_writeOne := goodIn_r _ [54, 4, 41, 55, 46, 47, 48, 10, 49, 50, 3, 37, 38, 39, 40, 42, 43, 44, 45, 56, 57, 58, 59, 60, 61, 62, 63, 64, 65, 66, 67, 68, 69, 70, 71, 72, 73, 74, 75] rfl (by decide +kernel)
set_option maxRecDepth 20000 in
theorem gX7_write_X7_writeOne : GoodIn wsX7_write (wsV RX7 171 RX7 yX7_writeOne wsX7_writeOne) := goodIn_app (goodIn_of _ (by decide +kernel)) ggX7_write_X7_writeOne
theorem dX7_write_0 : decode cX7_write 0 = .ok (.iload_n 1, 1) := by decide +kernel
theorem dX7_write_1 : decode cX7_write 1 = .ok (.invokestatic 66, 3) := by decide +kernel
theorem dX7_write_4 : decode cX7_write 4 = .ok (.ifCond .ne 6, 3) := by decide +kernel
theorem dX7_write_7 : decode cX7_write 7 = .ok (.bipush (-2), 2) := by decide +kernel
theorem dX7_write_9 : decode cX7_write 9 = .ok (.ireturn, 1) := by decide +kernel
theorem dX7_write_10 : decode cX7_write 10 = .ok (.aload_n 0, 1) := by decide +kernel
theorem dX7_write_11 : decode cX7_write 11 = .ok (.getfield 7, 3) := by decide +kernel
theorem dX7_write_14 : decode cX7_write 14 = .ok (.iload_n 1, 1) := by decide +kernel
theorem dX7_write_15 : decode cX7_write 15 = .ok (.iaload, 1) := by decide +kernel
theorem dX7_write_16 : decode cX7_write 16 = .ok (.istore_n 2, 1) := by decide +kernel
theorem dX7_write_17 : decode cX7_write 17 = .ok (.aload_n 0, 1) := by decide +kernel
theorem dX7_write_18 : decode cX7_write 18 = .ok (.iload_n 1, 1) := by decide +kernel
theorem dX7_write_19 : decode cX7_write 19 = .ok (.invokevirtual 162, 3) := by decide +kernel
theorem dX7_write_22 : decode cX7_write 22 = .ok (.istore_n 3, 1) := by decide +kernel
theorem dX7_write_23 : decode cX7_write 23 = .ok (.iconst 0, 1) := by decide +kernel
theorem dX7_write_24 : decode cX7_write 24 = .ok (.istore 4, 2) := by decide +kernel
theorem dX7_write_26 : decode cX7_write 26 = .ok (.iload 4, 2) := by decide +kernel
theorem dX7_write_28 : decode cX7_write 28 = .ok (.iload_n 2, 1) := by decide +kernel
theorem dX7_write_29 : decode cX7_write 29 = .ok (.if_icmp .ge 23, 3) := by decide +kernel
theorem dX7_write_32 : decode cX7_write 32 = .ok (.iload_n 3, 1) := by decide +kernel
theorem dX7_write_33 : decode cX7_write 33 = .ok (.aload_n 0, 1) := by decide +kernel
theorem dX7_write_34 : decode cX7_write 34 = .ok (.bipush 6, 2) := by decide +kernel
theorem dX7_write_36 : decode cX7_write 36 = .ok (.iload_n 1, 1) := by decide +kernel
theorem dX7_write_37 : decode cX7_write 37 = .ok (.imul, 1) := by decide +kernel
theorem dX7_write_38 : decode cX7_write 38 = .ok (.iload 4, 2) := by decide +kernel
theorem dX7_write_40 : decode cX7_write 40 = .ok (.iadd, 1) := by decide +kernel
theorem dX7_write_41 : decode cX7_write 41 = .ok (.invokevirtual 165, 3) := by decide +kernel
theorem dX7_write_44 : decode cX7_write 44 = .ok (.iadd, 1) := by decide +kernel
theorem dX7_write_45 : decode cX7_write 45 = .ok (.istore_n 3, 1) := by decide +kernel
theorem dX7_write_46 : decode cX7_write 46 = .ok (.iinc 4 1, 3) := by decide +kernel
theorem dX7_write_49 : decode cX7_write 49 = .ok (.goto (-23), 3) := by decide +kernel
theorem dX7_write_52 : decode cX7_write 52 = .ok (.iload_n 3, 1) := by decide +kernel
theorem dX7_write_53 : decode cX7_write 53 = .ok (.ldc 31, 2) := by decide +kernel
theorem dX7_write_55 : decode cX7_write 55 = .ok (.if_icmp .le 6, 3) := by decide +kernel
theorem dX7_write_58 : decode cX7_write 58 = .ok (.bipush (-4), 2) := by decide +kernel
theorem dX7_write_60 : decode cX7_write 60 = .ok (.ireturn, 1) := by decide +kernel
theorem dX7_write_61 : decode cX7_write 61 = .ok (.aload_n 0, 1) := by decide +kernel
theorem dX7_write_62 : decode cX7_write 62 = .ok (.iconst 0, 1) := by decide +kernel
theorem dX7_write_63 : decode cX7_write 63 = .ok (.putfield 153, 3) := by decide +kernel
theorem dX7_write_66 : decode cX7_write 66 = .ok (.aload_n 0, 1) := by decide +kernel
theorem dX7_write_67 : decode cX7_write 67 = .ok (.iload_n 1, 1) := by decide +kernel
theorem dX7_write_68 : decode cX7_write 68 = .ok (.invokevirtual 159, 3) := by decide +kernel
theorem dX7_write_71 : decode cX7_write 71 = .ok (.istore 4, 2) := by decide +kernel
theorem dX7_write_73 : decode cX7_write 73 = .ok (.iload 4, 2) := by decide +kernel
theorem dX7_write_75 : decode cX7_write 75 = .ok (.ifCond .eq 76, 3) := by decide +kernel
theorem dX7_write_78 : decode cX7_write 78 = .ok (.aload_n 0, 1) := by decide +kernel
theorem dX7_write_79 : decode cX7_write 79 = .ok (.sipush 12347, 3) := by decide +kernel
theorem dX7_write_82 : decode cX7_write 82 = .ok (.iconst 2, 1) := by decide +kernel
theorem dX7_write_83 : decode cX7_write 83 = .ok (.invokevirtual 168, 3) := by decide +kernel
theorem dX7_write_86 : decode cX7_write 86 = .ok (.aload_n 0, 1) := by decide +kernel
theorem dX7_write_87 : decode cX7_write 87 = .ok (.iload_n 2, 1) := by decide +kernel
theorem dX7_write_88 : decode cX7_write 88 = .ok (.iconst 1, 1) := by decide +kernel
theorem dX7_write_89 : decode cX7_write 89 = .ok (.isub, 1) := by decide +kernel
theorem dX7_write_90 : decode cX7_write 90 = .ok (.iconst 2, 1) := by decide +kernel
theorem dX7_write_91 : decode cX7_write 91 = .ok (.invokevirtual 168, 3) := by decide +kernel
theorem dX7_write_94 : decode cX7_write 94 = .ok (.iconst 0, 1) := by decide +kernel
theorem dX7_write_95 : decode cX7_write 95 = .ok (.istore 5, 2) := by decide +kernel
theorem dX7_write_97 : decode cX7_write 97 = .ok (.iconst 0, 1) := by decide +kernel
theorem dX7_write_98 : decode cX7_write 98 = .ok (.istore 6, 2) := by decide +kernel
theorem dX7_write_100 : decode cX7_write 100 = .ok (.iload 6, 2) := by decide +kernel
theorem dX7_write_102 : decode cX7_write 102 = .ok (.iload_n 2, 1) := by decide +kernel
theorem dX7_write_103 : decode cX7_write 103 = .ok (.if_icmp .ge 38, 3) := by decide +kernel
theorem dX7_write_106 : decode cX7_write 106 = .ok (.iload 5, 2) := by decide +kernel
theorem dX7_write_108 : decode cX7_write 108 = .ok (.aload_n 0, 1) := by decide +kernel
theorem dX7_write_109 : decode cX7_write 109 = .ok (.getfield 16, 3) := by decide +kernel
theorem dX7_write_112 : decode cX7_write 112 = .ok (.bipush 6, 2) := by decide +kernel
theorem dX7_write_114 : decode cX7_write 114 = .ok (.iload_n 1, 1) := by decide +kernel
theorem dX7_write_115 : decode cX7_write 115 = .ok (.imul, 1) := by decide +kernel
theorem dX7_write_116 : decode cX7_write 116 = .ok (.iload 6, 2) := by decide +kernel
theorem dX7_write_118 : decode cX7_write 118 = .ok (.iadd, 1) := by decide +kernel
theorem dX7_write_119 : decode cX7_write 119 = .ok (.iaload, 1) := by decide +kernel
theorem dX7_write_120 : decode cX7_write 120 = .ok (.iconst 2, 1) := by decide +kernel
theorem dX7_write_121 : decode cX7_write 121 = .ok (.if_icmp .ne 10, 3) := by decide +kernel
theorem dX7_write_124 : decode cX7_write 124 = .ok (.iconst 1, 1) := by decide +kernel
theorem dX7_write_125 : decode cX7_write 125 = .ok (.iload 6, 2) := by decide +kernel
theorem dX7_write_127 : decode cX7_write 127 = .ok (.ishl, 1) := by decide +kernel
theorem dX7_write_128 : decode cX7_write 128 = .ok (.goto 4, 3) := by decide +kernel
theorem dX7_write_131 : decode cX7_write 131 = .ok (.iconst 0, 1) := by decide +kernel
theorem dX7_write_132 : decode cX7_write 132 = .ok (.iadd, 1) := by decide +kernel
theorem dX7_write_133 : decode cX7_write 133 = .ok (.istore 5, 2) := by decide +kernel
theorem dX7_write_135 : decode cX7_write 135 = .ok (.iinc 6 1, 3) := by decide +kernel
theorem dX7_write_138 : decode cX7_write 138 = .ok (.goto (-38), 3) := by decide +kernel
theorem dX7_write_141 : decode cX7_write 141 = .ok (.aload_n 0, 1) := by decide +kernel
theorem dX7_write_142 : decode cX7_write 142 = .ok (.iload 5, 2) := by decide +kernel
theorem dX7_write_144 : decode cX7_write 144 = .ok (.iconst 1, 1) := by decide +kernel
theorem dX7_write_145 : decode cX7_write 145 = .ok (.invokevirtual 168, 3) := by decide +kernel
theorem dX7_write_148 : decode cX7_write 148 = .ok (.goto 17, 3) := by decide +kernel
theorem dX7_write_151 : decode cX7_write 151 = .ok (.aload_n 0, 1) := by decide +kernel
theorem dX7_write_152 : decode cX7_write 152 = .ok (.sipush 12346, 3) := by decide +kernel
theorem dX7_write_155 : decode cX7_write 155 = .ok (.iconst 4, 1) := by decide +kernel
theorem dX7_write_156 : decode cX7_write 156 = .ok (.invokevirtual 168, 3) := by decide +kernel
theorem dX7_write_159 : decode cX7_write 159 = .ok (.aload_n 0, 1) := by decide +kernel
theorem dX7_write_160 : decode cX7_write 160 = .ok (.iload_n 2, 1) := by decide +kernel
theorem dX7_write_161 : decode cX7_write 161 = .ok (.iconst 4, 1) := by decide +kernel
theorem dX7_write_162 : decode cX7_write 162 = .ok (.invokevirtual 168, 3) := by decide +kernel
theorem dX7_write_165 : decode cX7_write 165 = .ok (.iconst 0, 1) := by decide +kernel
theorem dX7_write_166 : decode cX7_write 166 = .ok (.istore 5, 2) := by decide +kernel
theorem dX7_write_168 : decode cX7_write 168 = .ok (.iload 5, 2) := by decide +kernel
theorem dX7_write_170 : decode cX7_write 170 = .ok (.iload_n 2, 1) := by decide +kernel
theorem dX7_write_171 : decode cX7_write 171 = .ok (.if_icmp .ge 45, 3) := by decide +kernel
theorem dX7_write_174 : decode cX7_write 174 = .ok (.aload_n 0, 1) := by decide +kernel
theorem dX7_write_175 : decode cX7_write 175 = .ok (.aload_n 0, 1) := by decide +kernel
theorem dX7_write_176 : decode cX7_write 176 = .ok (.getfield 13, 3) := by decide +kernel
theorem dX7_write_179 : decode cX7_write 179 = .ok (.bipush 6, 2) := by decide +kernel
theorem dX7_write_181 : decode cX7_write 181 = .ok (.iload_n 1, 1) := by decide +kernel
theorem dX7_write_182 : decode cX7_write 182 = .ok (.imul, 1) := by decide +kernel
theorem dX7_write_183 : decode cX7_write 183 = .ok (.iload 5, 2) := by decide +kernel
theorem dX7_write_185 : decode cX7_write 185 = .ok (.iadd, 1) := by decide +kernel
theorem dX7_write_186 : decode cX7_write 186 = .ok (.iaload, 1) := by decide +kernel
theorem dX7_write_187 : decode cX7_write 187 = .ok (.iconst 2, 1) := by decide +kernel
theorem dX7_write_188 : decode cX7_write 188 = .ok (.invokevirtual 168, 3) := by decide +kernel
theorem dX7_write_191 : decode cX7_write 191 = .ok (.aload_n 0, 1) := by decide +kernel
theorem dX7_write_192 : decode cX7_write 192 = .ok (.aload_n 0, 1) := by decide +kernel
theorem dX7_write_193 : decode cX7_write 193 = .ok (.getfield 19, 3) := by decide +kernel
theorem dX7_write_196 : decode cX7_write 196 = .ok (.bipush 6, 2) := by decide +kernel
theorem dX7_write_198 : decode cX7_write 198 = .ok (.iload_n 1, 1) := by decide +kernel
theorem dX7_write_199 : decode cX7_write 199 = .ok (.imul, 1) := by decide +kernel
theorem dX7_write_200 : decode cX7_write 200 = .ok (.iload 5, 2) := by decide +kernel
theorem dX7_write_202 : decode cX7_write 202 = .ok (.iadd, 1) := by decide +kernel
theorem dX7_write_203 : decode cX7_write 203 = .ok (.iaload, 1) := by decide +kernel
theorem dX7_write_204 : decode cX7_write 204 = .ok (.iconst 1, 1) := by decide +kernel
theorem dX7_write_205 : decode cX7_write 205 = .ok (.isub, 1) := by decide +kernel
theorem dX7_write_206 : decode cX7_write 206 = .ok (.iconst 2, 1) := by decide +kernel
theorem dX7_write_207 : decode cX7_write 207 = .ok (.invokevirtual 168, 3) := by decide +kernel
theorem dX7_write_210 : decode cX7_write 210 = .ok (.iinc 5 1, 3) := by decide +kernel
theorem dX7_write_213 : decode cX7_write 213 = .ok (.goto (-45), 3) := by decide +kernel
theorem dX7_write_216 : decode cX7_write 216 = .ok (.aload_n 0, 1) := by decide +kernel
theorem dX7_write_217 : decode cX7_write 217 = .ok (.iload_n 1, 1) := by decide +kernel
theorem dX7_write_218 : decode cX7_write 218 = .ok (.invokevirtual 162, 3) := by decide +kernel
theorem dX7_write_221 : decode cX7_write 221 = .ok (.istore 5, 2) := by decide +kernel
theorem dX7_write_223 : decode cX7_write 223 = .ok (.iconst 0, 1) := by decide +kernel
theorem dX7_write_224 : decode cX7_write 224 = .ok (.istore 6, 2) := by decide +kernel
theorem dX7_write_226 : decode cX7_write 226 = .ok (.iload 6, 2) := by decide +kernel
theorem dX7_write_228 : decode cX7_write 228 = .ok (.iload_n 2, 1) := by decide +kernel
theorem dX7_write_229 : decode cX7_write 229 = .ok (.if_icmp .ge 42, 3) := by decide +kernel
theorem dX7_write_232 : decode cX7_write 232 = .ok (.iload 4, 2) := by decide +kernel
theorem dX7_write_234 : decode cX7_write 234 = .ok (.ifCond .eq 8, 3) := by decide +kernel
theorem dX7_write_237 : decode cX7_write 237 = .ok (.iload_n 2, 1) := by decide +kernel
theorem dX7_write_238 : decode cX7_write 238 = .ok (.iconst 4, 1) := by decide +kernel
theorem dX7_write_239 : decode cX7_write 239 = .ok (.if_icmp .lt 32, 3) := by decide +kernel
theorem dX7_write_242 : decode cX7_write 242 = .ok (.aload_n 0, 1) := by decide +kernel
theorem dX7_write_243 : decode cX7_write 243 = .ok (.iload 5, 2) := by decide +kernel
theorem dX7_write_245 : decode cX7_write 245 = .ok (.iconst 4, 1) := by decide +kernel
theorem dX7_write_246 : decode cX7_write 246 = .ok (.invokevirtual 168, 3) := by decide +kernel
theorem dX7_write_249 : decode cX7_write 249 = .ok (.iload 5, 2) := by decide +kernel
theorem dX7_write_251 : decode cX7_write 251 = .ok (.aload_n 0, 1) := by decide +kernel
theorem dX7_write_252 : decode cX7_write 252 = .ok (.bipush 6, 2) := by decide +kernel
theorem dX7_write_254 : decode cX7_write 254 = .ok (.iload_n 1, 1) := by decide +kernel
theorem dX7_write_255 : decode cX7_write 255 = .ok (.imul, 1) := by decide +kernel
theorem dX7_write_256 : decode cX7_write 256 = .ok (.iload 6, 2) := by decide +kernel
theorem dX7_write_258 : decode cX7_write 258 = .ok (.iadd, 1) := by decide +kernel
theorem dX7_write_259 : decode cX7_write 259 = .ok (.invokevirtual 165, 3) := by decide +kernel
theorem dX7_write_262 : decode cX7_write 262 = .ok (.iadd, 1) := by decide +kernel
theorem dX7_write_263 : decode cX7_write 263 = .ok (.istore 5, 2) := by decide +kernel
theorem dX7_write_265 : decode cX7_write 265 = .ok (.iinc 6 1, 3) := by decide +kernel
theorem dX7_write_268 : decode cX7_write 268 = .ok (.goto (-42), 3) := by decide +kernel
theorem dX7_write_271 : decode cX7_write 271 = .ok (.iconst 0, 1) := by decide +kernel
theorem dX7_write_272 : decode cX7_write 272 = .ok (.istore 6, 2) := by decide +kernel
theorem dX7_write_274 : decode cX7_write 274 = .ok (.iload 6, 2) := by decide +kernel
theorem dX7_write_276 : decode cX7_write 276 = .ok (.iload_n 2, 1) := by decide +kernel
theorem dX7_write_277 : decode cX7_write 277 = .ok (.if_icmp .ge 20, 3) := by decide +kernel
theorem dX7_write_280 : decode cX7_write 280 = .ok (.aload_n 0, 1) := by decide +kernel
theorem dX7_write_281 : decode cX7_write 281 = .ok (.bipush 6, 2) := by decide +kernel
theorem dX7_write_283 : decode cX7_write 283 = .ok (.iload_n 1, 1) := by decide +kernel
theorem dX7_write_284 : decode cX7_write 284 = .ok (.imul, 1) := by decide +kernel
theorem dX7_write_285 : decode cX7_write 285 = .ok (.iload 6, 2) := by decide +kernel
theorem dX7_write_287 : decode cX7_write 287 = .ok (.iadd, 1) := by decide +kernel
theorem dX7_write_288 : decode cX7_write 288 = .ok (.invokevirtual 171, 3) := by decide +kernel
theorem dX7_write_291 : decode cX7_write 291 = .ok (.iinc 6 1, 3) := by decide +kernel
theorem dX7_write_294 : decode cX7_write 294 = .ok (.goto (-20), 3) := by decide +kernel
theorem dX7_write_297 : decode cX7_write 297 = .ok (.aload_n 0, 1) := by decide +kernel
theorem dX7_write_298 : decode cX7_write 298 = .ok (.aload_n 0, 1) := by decide +kernel
theorem dX7_write_299 : decode cX7_write 299 = .ok (.getfield 153, 3) := by decide +kernel
theorem dX7_write_302 : decode cX7_write 302 = .ok (.putfield 174, 3) := by decide +kernel
theorem dX7_write_305 : decode cX7_write 305 = .ok (.aload_n 0, 1) := by decide +kernel
theorem dX7_write_306 : decode cX7_write 306 = .ok (.getfield 174, 3) := by decide +kernel
theorem dX7_write_309 : decode cX7_write 309 = .ok (.ireturn, 1) := by decide +kernel
set_option maxRecDepth 20000 in
theorem ggX7_writeOne_X7_put : GoodIn wsX7_writeOne wsX7_put := goodIn_r _ [8, 9, 10, 23, 24, 25, 26, 27, 28, 29, 30, 31, 32, 33, 34, 35, 36, 37, 38] rfl (by decide +kernel)
set_option maxRecDepth 20000 in
theorem gX7_writeOne_X7_put : GoodIn wsX7_writeOne (wsV RX7 168 RX7 yX7_put wsX7_put) := goodIn_app (goodIn_of _ (by decide +kernel)) ggX7_writeOne_X7_put
set_option maxRecDepth 20000 in
theorem ggX7_writeOne_X7_runsOf : GoodIn wsX7_writeOne wsX7_runsOf := goodIn_r _ [14, 2, 15, 16, 17, 7, 18, 23, 24, 25, 26, 27, 28, 29, 30, 31, 32, 33, 34, 35, 36, 37, 38] rfl (by decide +kernel)
set_option maxRecDepth 20000 in
theorem gX7_writeOne_X7_runsOf : GoodIn wsX7_writeOne (wsV RX7 121 RX7 yX7_runsOf wsX7_runsOf) := goodIn_app (goodIn_of _ (by decide +kernel)) ggX7_writeOne_X7_runsOf
set_option maxRecDepth 20000 in
theorem ggX7_writeOne_X7_hasLow : GoodIn wsX7_writeOne wsX7_hasLow := goodIn_r _ [22, 2, 23, 24, 25, 26, 27, 28, 29, 30, 31, 32, 33, 34, 35, 36, 37, 38] rfl (by decide +kernel)
set_option maxRecDepth 20000 in
theorem gX7_writeOne_X7_hasLow : GoodIn wsX7_writeOne (wsV RX7 75 RX7 yX7_hasLow wsX7_hasLow) := goodIn_app (goodIn_of _ (by decide +kernel)) ggX7_writeOne_X7_hasLow
theorem dX7_writeOne_0 : decode cX7_writeOne 0 = .ok (.aload_n 0, 1) := by decide +kernel
theorem dX7_writeOne_1 : decode cX7_writeOne 1 = .ok (.getfield 16, 3) := by decide +kernel
theorem dX7_writeOne_4 : decode cX7_writeOne 4 = .ok (.iload_n 1, 1) := by decide +kernel
theorem dX7_writeOne_5 : decode cX7_writeOne 5 = .ok (.iaload, 1) := by decide +kernel
theorem dX7_writeOne_6 : decode cX7_writeOne 6 = .ok (.iconst 1, 1) := by decide +kernel
theorem dX7_writeOne_7 : decode cX7_writeOne 7 = .ok (.if_icmp .ne 58, 3) := by decide +kernel
theorem dX7_writeOne_10 : decode cX7_writeOne 10 = .ok (.iconst 0, 1) := by decide +kernel
theorem dX7_writeOne_11 : decode cX7_writeOne 11 = .ok (.istore_n 2, 1) := by decide +kernel
theorem dX7_writeOne_12 : decode cX7_writeOne 12 = .ok (.iload_n 2, 1) := by decide +kernel
theorem dX7_writeOne_13 : decode cX7_writeOne 13 = .ok (.sipush 1024, 3) := by decide +kernel
theorem dX7_writeOne_16 : decode cX7_writeOne 16 = .ok (.if_icmp .ge 48, 3) := by decide +kernel
theorem dX7_writeOne_19 : decode cX7_writeOne 19 = .ok (.aload_n 0, 1) := by decide +kernel
theorem dX7_writeOne_20 : decode cX7_writeOne 20 = .ok (.aload_n 0, 1) := by decide +kernel
theorem dX7_writeOne_21 : decode cX7_writeOne 21 = .ok (.getfield 23, 3) := by decide +kernel
theorem dX7_writeOne_24 : decode cX7_writeOne 24 = .ok (.sipush 1024, 3) := by decide +kernel
theorem dX7_writeOne_27 : decode cX7_writeOne 27 = .ok (.iload_n 1, 1) := by decide +kernel
theorem dX7_writeOne_28 : decode cX7_writeOne 28 = .ok (.imul, 1) := by decide +kernel
theorem dX7_writeOne_29 : decode cX7_writeOne 29 = .ok (.iload_n 2, 1) := by decide +kernel
theorem dX7_writeOne_30 : decode cX7_writeOne 30 = .ok (.iadd, 1) := by decide +kernel
theorem dX7_writeOne_31 : decode cX7_writeOne 31 = .ok (.laload, 1) := by decide +kernel
theorem dX7_writeOne_32 : decode cX7_writeOne 32 = .ok (.l2i, 1) := by decide +kernel
theorem dX7_writeOne_33 : decode cX7_writeOne 33 = .ok (.iconst 4, 1) := by decide +kernel
theorem dX7_writeOne_34 : decode cX7_writeOne 34 = .ok (.invokevirtual 168, 3) := by decide +kernel
theorem dX7_writeOne_37 : decode cX7_writeOne 37 = .ok (.aload_n 0, 1) := by decide +kernel
theorem dX7_writeOne_38 : decode cX7_writeOne 38 = .ok (.aload_n 0, 1) := by decide +kernel
theorem dX7_writeOne_39 : decode cX7_writeOne 39 = .ok (.getfield 23, 3) := by decide +kernel
theorem dX7_writeOne_42 : decode cX7_writeOne 42 = .ok (.sipush 1024, 3) := by decide +kernel
theorem dX7_writeOne_45 : decode cX7_writeOne 45 = .ok (.iload_n 1, 1) := by decide +kernel
theorem dX7_writeOne_46 : decode cX7_writeOne 46 = .ok (.imul, 1) := by decide +kernel
theorem dX7_writeOne_47 : decode cX7_writeOne 47 = .ok (.iload_n 2, 1) := by decide +kernel
theorem dX7_writeOne_48 : decode cX7_writeOne 48 = .ok (.iadd, 1) := by decide +kernel
theorem dX7_writeOne_49 : decode cX7_writeOne 49 = .ok (.laload, 1) := by decide +kernel
theorem dX7_writeOne_50 : decode cX7_writeOne 50 = .ok (.bipush 32, 2) := by decide +kernel
theorem dX7_writeOne_52 : decode cX7_writeOne 52 = .ok (.lushr, 1) := by decide +kernel
theorem dX7_writeOne_53 : decode cX7_writeOne 53 = .ok (.l2i, 1) := by decide +kernel
theorem dX7_writeOne_54 : decode cX7_writeOne 54 = .ok (.iconst 4, 1) := by decide +kernel
theorem dX7_writeOne_55 : decode cX7_writeOne 55 = .ok (.invokevirtual 168, 3) := by decide +kernel
theorem dX7_writeOne_58 : decode cX7_writeOne 58 = .ok (.iinc 2 1, 3) := by decide +kernel
theorem dX7_writeOne_61 : decode cX7_writeOne 61 = .ok (.goto (-49), 3) := by decide +kernel
theorem dX7_writeOne_64 : decode cX7_writeOne 64 = .ok (.return_, 1) := by decide +kernel
theorem dX7_writeOne_65 : decode cX7_writeOne 65 = .ok (.aload_n 0, 1) := by decide +kernel
theorem dX7_writeOne_66 : decode cX7_writeOne 66 = .ok (.getfield 16, 3) := by decide +kernel
theorem dX7_writeOne_69 : decode cX7_writeOne 69 = .ok (.iload_n 1, 1) := by decide +kernel
theorem dX7_writeOne_70 : decode cX7_writeOne 70 = .ok (.iaload, 1) := by decide +kernel
theorem dX7_writeOne_71 : decode cX7_writeOne 71 = .ok (.iconst 2, 1) := by decide +kernel
theorem dX7_writeOne_72 : decode cX7_writeOne 72 = .ok (.if_icmp .ne 13, 3) := by decide +kernel
theorem dX7_writeOne_75 : decode cX7_writeOne 75 = .ok (.aload_n 0, 1) := by decide +kernel
theorem dX7_writeOne_76 : decode cX7_writeOne 76 = .ok (.aload_n 0, 1) := by decide +kernel
theorem dX7_writeOne_77 : decode cX7_writeOne 77 = .ok (.iload_n 1, 1) := by decide +kernel
theorem dX7_writeOne_78 : decode cX7_writeOne 78 = .ok (.invokevirtual 121, 3) := by decide +kernel
theorem dX7_writeOne_81 : decode cX7_writeOne 81 = .ok (.iconst 2, 1) := by decide +kernel
theorem dX7_writeOne_82 : decode cX7_writeOne 82 = .ok (.invokevirtual 168, 3) := by decide +kernel
theorem dX7_writeOne_85 : decode cX7_writeOne 85 = .ok (.iconst 0, 1) := by decide +kernel
theorem dX7_writeOne_86 : decode cX7_writeOne 86 = .ok (.istore_n 2, 1) := by decide +kernel
theorem dX7_writeOne_87 : decode cX7_writeOne 87 = .ok (.iload_n 2, 1) := by decide +kernel
theorem dX7_writeOne_88 : decode cX7_writeOne 88 = .ok (.ldc 107, 2) := by decide +kernel
theorem dX7_writeOne_90 : decode cX7_writeOne 90 = .ok (.if_icmp .ge 81, 3) := by decide +kernel
theorem dX7_writeOne_93 : decode cX7_writeOne 93 = .ok (.aload_n 0, 1) := by decide +kernel
theorem dX7_writeOne_94 : decode cX7_writeOne 94 = .ok (.iload_n 1, 1) := by decide +kernel
theorem dX7_writeOne_95 : decode cX7_writeOne 95 = .ok (.iload_n 2, 1) := by decide +kernel
theorem dX7_writeOne_96 : decode cX7_writeOne 96 = .ok (.invokevirtual 75, 3) := by decide +kernel
theorem dX7_writeOne_99 : decode cX7_writeOne 99 = .ok (.ifCond .ne 9, 3) := by decide +kernel
theorem dX7_writeOne_102 : decode cX7_writeOne 102 = .ok (.iinc 2 1, 3) := by decide +kernel
theorem dX7_writeOne_105 : decode cX7_writeOne 105 = .ok (.goto (-18), 3) := by decide +kernel
theorem dX7_writeOne_108 : decode cX7_writeOne 108 = .ok (.aload_n 0, 1) := by decide +kernel
theorem dX7_writeOne_109 : decode cX7_writeOne 109 = .ok (.getfield 16, 3) := by decide +kernel
theorem dX7_writeOne_112 : decode cX7_writeOne 112 = .ok (.iload_n 1, 1) := by decide +kernel
theorem dX7_writeOne_113 : decode cX7_writeOne 113 = .ok (.iaload, 1) := by decide +kernel
theorem dX7_writeOne_114 : decode cX7_writeOne 114 = .ok (.ifCond .ne 15, 3) := by decide +kernel
theorem dX7_writeOne_117 : decode cX7_writeOne 117 = .ok (.aload_n 0, 1) := by decide +kernel
theorem dX7_writeOne_118 : decode cX7_writeOne 118 = .ok (.iload_n 2, 1) := by decide +kernel
theorem dX7_writeOne_119 : decode cX7_writeOne 119 = .ok (.iconst 2, 1) := by decide +kernel
theorem dX7_writeOne_120 : decode cX7_writeOne 120 = .ok (.invokevirtual 168, 3) := by decide +kernel
theorem dX7_writeOne_123 : decode cX7_writeOne 123 = .ok (.iinc 2 1, 3) := by decide +kernel
theorem dX7_writeOne_126 : decode cX7_writeOne 126 = .ok (.goto (-39), 3) := by decide +kernel
theorem dX7_writeOne_129 : decode cX7_writeOne 129 = .ok (.iload_n 2, 1) := by decide +kernel
theorem dX7_writeOne_130 : decode cX7_writeOne 130 = .ok (.istore_n 3, 1) := by decide +kernel
theorem dX7_writeOne_131 : decode cX7_writeOne 131 = .ok (.iload_n 2, 1) := by decide +kernel
theorem dX7_writeOne_132 : decode cX7_writeOne 132 = .ok (.ldc 107, 2) := by decide +kernel
theorem dX7_writeOne_134 : decode cX7_writeOne 134 = .ok (.if_icmp .ge 18, 3) := by decide +kernel
theorem dX7_writeOne_137 : decode cX7_writeOne 137 = .ok (.aload_n 0, 1) := by decide +kernel
theorem dX7_writeOne_138 : decode cX7_writeOne 138 = .ok (.iload_n 1, 1) := by decide +kernel
theorem dX7_writeOne_139 : decode cX7_writeOne 139 = .ok (.iload_n 2, 1) := by decide +kernel
theorem dX7_writeOne_140 : decode cX7_writeOne 140 = .ok (.invokevirtual 75, 3) := by decide +kernel
theorem dX7_writeOne_143 : decode cX7_writeOne 143 = .ok (.ifCond .eq 9, 3) := by decide +kernel
theorem dX7_writeOne_146 : decode cX7_writeOne 146 = .ok (.iinc 2 1, 3) := by decide +kernel
theorem dX7_writeOne_149 : decode cX7_writeOne 149 = .ok (.goto (-18), 3) := by decide +kernel
theorem dX7_writeOne_152 : decode cX7_writeOne 152 = .ok (.aload_n 0, 1) := by decide +kernel
theorem dX7_writeOne_153 : decode cX7_writeOne 153 = .ok (.iload_n 3, 1) := by decide +kernel
theorem dX7_writeOne_154 : decode cX7_writeOne 154 = .ok (.iconst 2, 1) := by decide +kernel
theorem dX7_writeOne_155 : decode cX7_writeOne 155 = .ok (.invokevirtual 168, 3) := by decide +kernel
theorem dX7_writeOne_158 : decode cX7_writeOne 158 = .ok (.aload_n 0, 1) := by decide +kernel
theorem dX7_writeOne_159 : decode cX7_writeOne 159 = .ok (.iload_n 2, 1) := by decide +kernel
theorem dX7_writeOne_160 : decode cX7_writeOne 160 = .ok (.iconst 1, 1) := by decide +kernel
theorem dX7_writeOne_161 : decode cX7_writeOne 161 = .ok (.isub, 1) := by decide +kernel
theorem dX7_writeOne_162 : decode cX7_writeOne 162 = .ok (.iload_n 3, 1) := by decide +kernel
theorem dX7_writeOne_163 : decode cX7_writeOne 163 = .ok (.isub, 1) := by decide +kernel
theorem dX7_writeOne_164 : decode cX7_writeOne 164 = .ok (.iconst 2, 1) := by decide +kernel
theorem dX7_writeOne_165 : decode cX7_writeOne 165 = .ok (.invokevirtual 168, 3) := by decide +kernel
theorem dX7_writeOne_168 : decode cX7_writeOne 168 = .ok (.goto (-81), 3) := by decide +kernel
theorem dX7_writeOne_171 : decode cX7_writeOne 171 = .ok (.return_, 1) := by decide +kernel
theorem dX7_fails_0 : decode cX7_fails 0 = .ok (.aload_n 0, 1) := by decide +kernel
theorem dX7_fails_1 : decode cX7_fails 1 = .ok (.iload_n 1, 1) := by decide +kernel
theorem dX7_fails_2 : decode cX7_fails 2 = .ok (.putfield 177, 3) := by decide +kernel
theorem dX7_fails_5 : decode cX7_fails 5 = .ok (.aload_n 0, 1) := by decide +kernel
theorem dX7_fails_6 : decode cX7_fails 6 = .ok (.iload_n 2, 1) := by decide +kernel
theorem dX7_fails_7 : decode cX7_fails 7 = .ok (.putfield 180, 3) := by decide +kernel
theorem dX7_fails_10 : decode cX7_fails 10 = .ok (.iconst 0, 1) := by decide +kernel
theorem dX7_fails_11 : decode cX7_fails 11 = .ok (.ireturn, 1) := by decide +kernel
set_option maxRecDepth 20000 in
theorem ggX7_are_X7_fails : GoodIn wsX7_are wsX7_fails := goodIn_r _ [7, 8, 9, 10, 11, 12, 13, 14, 15, 16, 17, 18, 19, 20, 21, 22, 23, 24, 25] rfl (by decide +kernel)
set_option maxRecDepth 20000 in
theorem gX7_are_X7_fails : GoodIn wsX7_are (wsV RX7 186 RX7 yX7_fails wsX7_fails) := goodIn_app (goodIn_of _ (by decide +kernel)) ggX7_are_X7_fails
theorem dX7_are_0 : decode cX7_are 0 = .ok (.aload_n 0, 1) := by decide +kernel
theorem dX7_are_1 : decode cX7_are 1 = .ok (.getfield 183, 3) := by decide +kernel
theorem dX7_are_4 : decode cX7_are 4 = .ok (.iload_n 1, 1) := by decide +kernel
theorem dX7_are_5 : decode cX7_are 5 = .ok (.iadd, 1) := by decide +kernel
theorem dX7_are_6 : decode cX7_are 6 = .ok (.aload_n 0, 1) := by decide +kernel
theorem dX7_are_7 : decode cX7_are 7 = .ok (.getfield 174, 3) := by decide +kernel
theorem dX7_are_10 : decode cX7_are 10 = .ok (.if_icmp .le 15, 3) := by decide +kernel
theorem dX7_are_13 : decode cX7_are 13 = .ok (.aload_n 0, 1) := by decide +kernel
theorem dX7_are_14 : decode cX7_are 14 = .ok (.iconst 1, 1) := by decide +kernel
theorem dX7_are_15 : decode cX7_are 15 = .ok (.aload_n 0, 1) := by decide +kernel
theorem dX7_are_16 : decode cX7_are 16 = .ok (.getfield 174, 3) := by decide +kernel
theorem dX7_are_19 : decode cX7_are 19 = .ok (.invokevirtual 186, 3) := by decide +kernel
theorem dX7_are_22 : decode cX7_are 22 = .ok (.ifCond .eq 7, 3) := by decide +kernel
theorem dX7_are_25 : decode cX7_are 25 = .ok (.iconst 1, 1) := by decide +kernel
theorem dX7_are_26 : decode cX7_are 26 = .ok (.goto 4, 3) := by decide +kernel
theorem dX7_are_29 : decode cX7_are 29 = .ok (.iconst 0, 1) := by decide +kernel
theorem dX7_are_30 : decode cX7_are 30 = .ok (.ireturn, 1) := by decide +kernel
theorem dX7_taken_0 : decode cX7_taken 0 = .ok (.lconst 0, 1) := by decide +kernel
theorem dX7_taken_1 : decode cX7_taken 1 = .ok (.lstore_n 2, 1) := by decide +kernel
theorem dX7_taken_2 : decode cX7_taken 2 = .ok (.iconst 0, 1) := by decide +kernel
theorem dX7_taken_3 : decode cX7_taken 3 = .ok (.istore 4, 2) := by decide +kernel
theorem dX7_taken_5 : decode cX7_taken 5 = .ok (.iload 4, 2) := by decide +kernel
theorem dX7_taken_7 : decode cX7_taken 7 = .ok (.iload_n 1, 1) := by decide +kernel
theorem dX7_taken_8 : decode cX7_taken 8 = .ok (.if_icmp .ge 38, 3) := by decide +kernel
theorem dX7_taken_11 : decode cX7_taken 11 = .ok (.lload_n 2, 1) := by decide +kernel
theorem dX7_taken_12 : decode cX7_taken 12 = .ok (.aload_n 0, 1) := by decide +kernel
theorem dX7_taken_13 : decode cX7_taken 13 = .ok (.getfield 32, 3) := by decide +kernel
theorem dX7_taken_16 : decode cX7_taken 16 = .ok (.aload_n 0, 1) := by decide +kernel
theorem dX7_taken_17 : decode cX7_taken 17 = .ok (.getfield 183, 3) := by decide +kernel
theorem dX7_taken_20 : decode cX7_taken 20 = .ok (.iaload, 1) := by decide +kernel
theorem dX7_taken_21 : decode cX7_taken 21 = .ok (.i2l, 1) := by decide +kernel
theorem dX7_taken_22 : decode cX7_taken 22 = .ok (.bipush 8, 2) := by decide +kernel
theorem dX7_taken_24 : decode cX7_taken 24 = .ok (.iload 4, 2) := by decide +kernel
theorem dX7_taken_26 : decode cX7_taken 26 = .ok (.imul, 1) := by decide +kernel
theorem dX7_taken_27 : decode cX7_taken 27 = .ok (.lshl, 1) := by decide +kernel
theorem dX7_taken_28 : decode cX7_taken 28 = .ok (.ladd, 1) := by decide +kernel
theorem dX7_taken_29 : decode cX7_taken 29 = .ok (.lstore_n 2, 1) := by decide +kernel
theorem dX7_taken_30 : decode cX7_taken 30 = .ok (.aload_n 0, 1) := by decide +kernel
theorem dX7_taken_31 : decode cX7_taken 31 = .ok (.dup, 1) := by decide +kernel
theorem dX7_taken_32 : decode cX7_taken 32 = .ok (.getfield 183, 3) := by decide +kernel
theorem dX7_taken_35 : decode cX7_taken 35 = .ok (.iconst 1, 1) := by decide +kernel
theorem dX7_taken_36 : decode cX7_taken 36 = .ok (.iadd, 1) := by decide +kernel
theorem dX7_taken_37 : decode cX7_taken 37 = .ok (.putfield 183, 3) := by decide +kernel
theorem dX7_taken_40 : decode cX7_taken 40 = .ok (.iinc 4 1, 3) := by decide +kernel
theorem dX7_taken_43 : decode cX7_taken 43 = .ok (.goto (-38), 3) := by decide +kernel
theorem dX7_taken_46 : decode cX7_taken 46 = .ok (.lload_n 2, 1) := by decide +kernel
theorem dX7_taken_47 : decode cX7_taken 47 = .ok (.lreturn, 1) := by decide +kernel
set_option maxRecDepth 20000 in
theorem ggX7_readsHead_X7_are : GoodIn wsX7_readsHead wsX7_are := goodIn_r _ [11, 12, 13, 14, 15, 16, 10, 17, 18, 19, 39, 40, 41, 42, 43, 44, 45, 46, 47, 48, 49, 50, 51, 52, 53, 54] rfl (by decide +kernel)
set_option maxRecDepth 20000 in
theorem gX7_readsHead_X7_are : GoodIn wsX7_readsHead (wsV RX7 189 RX7 yX7_are wsX7_are) := goodIn_app (goodIn_of _ (by decide +kernel)) ggX7_readsHead_X7_are
set_option maxRecDepth 20000 in
theorem ggX7_readsHead_X7_taken : GoodIn wsX7_readsHead wsX7_taken := goodIn_r _ [23, 24, 12, 39, 40, 41, 42, 43, 44, 45, 46, 47, 48, 49, 50, 51, 52, 53, 54] rfl (by decide +kernel)
set_option maxRecDepth 20000 in
theorem gX7_readsHead_X7_taken : GoodIn wsX7_readsHead (wsV RX7 192 RX7 yX7_taken wsX7_taken) := goodIn_app (goodIn_of _ (by decide +kernel)) ggX7_readsHead_X7_taken
set_option maxRecDepth 20000 in
theorem ggX7_readsHead_X7_fails : GoodIn wsX7_readsHead wsX7_fails := goodIn_r _ [17, 18, 19, 39, 40, 41, 42, 43, 44, 45, 46, 47, 48, 49, 50, 51, 52, 53, 54] rfl (by decide +kernel)
set_option maxRecDepth 20000 in
theorem gX7_readsHead_X7_fails : GoodIn wsX7_readsHead (wsV RX7 186 RX7 yX7_fails wsX7_fails) := goodIn_app (goodIn_of _ (by decide +kernel)) ggX7_readsHead_X7_fails
set_option maxRecDepth 20000 in
theorem ggX7_readsHead_X7_readsKeys : GoodIn wsX7_readsHead wsX7_readsKeys := goodIn_r _ [28, 29, 30, 12, 31, 7, 8, 9, 10, 11, 13, 14, 15, 16, 17, 18, 19, 20, 21, 22, 23, 24, 39, 40, 41, 42, 43, 44, 45, 46, 47, 48, 49, 50, 51, 52, 53, 54] rfl (by decide +kernel)
set_option maxRecDepth 20000 in
theorem gX7_readsHead_X7_readsKeys : GoodIn wsX7_readsHead (wsV RX7 205 RX7 yX7_readsKeys wsX7_readsKeys) := goodIn_app (goodIn_of _ (by decide +kernel)) ggX7_readsHead_X7_readsKeys
set_option maxRecDepth 20000 in
theorem ggX7_readsHead_X7_readsPlaces : GoodIn wsX7_readsHead wsX7_readsPlaces := goodIn_r _ [35, 36, 37, 38, 12, 7, 8, 9, 10, 11, 13, 14, 15, 16, 17, 18, 19, 20, 21, 22, 23, 24, 39, 40, 41, 42, 43, 44, 45, 46, 47, 48, 49, 50, 51, 52, 53, 54] rfl (by decide +kernel)
set_option maxRecDepth 20000 in
theorem gX7_readsHead_X7_readsPlaces : GoodIn wsX7_readsHead (wsV RX7 208 RX7 yX7_readsPlaces wsX7_readsPlaces) := goodIn_app (goodIn_of _ (by decide +kernel)) ggX7_readsHead_X7_readsPlaces
theorem dX7_readsHead_0 : decode cX7_readsHead 0 = .ok (.aload_n 0, 1) := by decide +kernel
theorem dX7_readsHead_1 : decode cX7_readsHead 1 = .ok (.iconst 4, 1) := by decide +kernel
theorem dX7_readsHead_2 : decode cX7_readsHead 2 = .ok (.invokevirtual 189, 3) := by decide +kernel
theorem dX7_readsHead_5 : decode cX7_readsHead 5 = .ok (.ifCond .ne 5, 3) := by decide +kernel
theorem dX7_readsHead_8 : decode cX7_readsHead 8 = .ok (.iconst 0, 1) := by decide +kernel
theorem dX7_readsHead_9 : decode cX7_readsHead 9 = .ok (.ireturn, 1) := by decide +kernel
theorem dX7_readsHead_10 : decode cX7_readsHead 10 = .ok (.aload_n 0, 1) := by decide +kernel
theorem dX7_readsHead_11 : decode cX7_readsHead 11 = .ok (.iconst 4, 1) := by decide +kernel
theorem dX7_readsHead_12 : decode cX7_readsHead 12 = .ok (.invokevirtual 192, 3) := by decide +kernel
theorem dX7_readsHead_15 : decode cX7_readsHead 15 = .ok (.lstore_n 1, 1) := by decide +kernel
theorem dX7_readsHead_16 : decode cX7_readsHead 16 = .ok (.lload_n 1, 1) := by decide +kernel
theorem dX7_readsHead_17 : decode cX7_readsHead 17 = .ok (.ldc2_w 196, 3) := by decide +kernel
theorem dX7_readsHead_20 : decode cX7_readsHead 20 = .ok (.lcmp, 1) := by decide +kernel
theorem dX7_readsHead_21 : decode cX7_readsHead 21 = .ok (.ifCond .ne 7, 3) := by decide +kernel
theorem dX7_readsHead_24 : decode cX7_readsHead 24 = .ok (.iconst 1, 1) := by decide +kernel
theorem dX7_readsHead_25 : decode cX7_readsHead 25 = .ok (.goto 4, 3) := by decide +kernel
theorem dX7_readsHead_28 : decode cX7_readsHead 28 = .ok (.iconst 0, 1) := by decide +kernel
theorem dX7_readsHead_29 : decode cX7_readsHead 29 = .ok (.istore_n 3, 1) := by decide +kernel
theorem dX7_readsHead_30 : decode cX7_readsHead 30 = .ok (.aload_n 0, 1) := by decide +kernel
theorem dX7_readsHead_31 : decode cX7_readsHead 31 = .ok (.iconst 0, 1) := by decide +kernel
theorem dX7_readsHead_32 : decode cX7_readsHead 32 = .ok (.putfield 198, 3) := by decide +kernel
theorem dX7_readsHead_35 : decode cX7_readsHead 35 = .ok (.iload_n 3, 1) := by decide +kernel
theorem dX7_readsHead_36 : decode cX7_readsHead 36 = .ok (.ifCond .eq 23, 3) := by decide +kernel
theorem dX7_readsHead_39 : decode cX7_readsHead 39 = .ok (.aload_n 0, 1) := by decide +kernel
theorem dX7_readsHead_40 : decode cX7_readsHead 40 = .ok (.iconst 4, 1) := by decide +kernel
theorem dX7_readsHead_41 : decode cX7_readsHead 41 = .ok (.invokevirtual 189, 3) := by decide +kernel
theorem dX7_readsHead_44 : decode cX7_readsHead 44 = .ok (.ifCond .ne 5, 3) := by decide +kernel
theorem dX7_readsHead_47 : decode cX7_readsHead 47 = .ok (.iconst 0, 1) := by decide +kernel
theorem dX7_readsHead_48 : decode cX7_readsHead 48 = .ok (.ireturn, 1) := by decide +kernel
theorem dX7_readsHead_49 : decode cX7_readsHead 49 = .ok (.aload_n 0, 1) := by decide +kernel
theorem dX7_readsHead_50 : decode cX7_readsHead 50 = .ok (.iconst 4, 1) := by decide +kernel
theorem dX7_readsHead_51 : decode cX7_readsHead 51 = .ok (.invokevirtual 192, 3) := by decide +kernel
theorem dX7_readsHead_54 : decode cX7_readsHead 54 = .ok (.lstore 4, 2) := by decide +kernel
theorem dX7_readsHead_56 : decode cX7_readsHead 56 = .ok (.goto 34, 3) := by decide +kernel
theorem dX7_readsHead_59 : decode cX7_readsHead 59 = .ok (.lload_n 1, 1) := by decide +kernel
theorem dX7_readsHead_60 : decode cX7_readsHead 60 = .ok (.ldc2_w 140, 3) := by decide +kernel
theorem dX7_readsHead_63 : decode cX7_readsHead 63 = .ok (.lrem, 1) := by decide +kernel
theorem dX7_readsHead_64 : decode cX7_readsHead 64 = .ok (.ldc2_w 201, 3) := by decide +kernel
