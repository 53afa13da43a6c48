theorem dX4_init_0 : decode cX4_init 0 = .ok (.aload_n 0, 1) := by decide +kernel
theorem dX4_init_1 : decode cX4_init 1 = .ok (.invokespecial 3, 3) := by decide +kernel
theorem dX4_init_4 : decode cX4_init 4 = .ok (.aload_n 0, 1) := by decide +kernel
theorem dX4_init_5 : decode cX4_init 5 = .ok (.bipush 6, 2) := by decide +kernel
theorem dX4_init_7 : decode cX4_init 7 = .ok (.newarray .int, 2) := by decide +kernel
theorem dX4_init_9 : decode cX4_init 9 = .ok (.putfield 9, 3) := by decide +kernel
theorem dX4_init_12 : decode cX4_init 12 = .ok (.aload_n 0, 1) := by decide +kernel
theorem dX4_init_13 : decode cX4_init 13 = .ok (.bipush 6, 2) := by decide +kernel
theorem dX4_init_15 : decode cX4_init 15 = .ok (.newarray .int, 2) := by decide +kernel
theorem dX4_init_17 : decode cX4_init 17 = .ok (.putfield 15, 3) := by decide +kernel
theorem dX4_init_20 : decode cX4_init 20 = .ok (.return_, 1) := by decide +kernel
set_option maxRecDepth 20000 in
theorem ggX4_takeSet_X4_takeMark : GoodIn wsX4_takeSet wsX4_takeMark := goodIn_r _ [15, 16, 17, 18, 19, 20, 21, 14, 22, 5, 3, 23, 24, 25, 26, 1, 2, 27, 28, 29, 30, 31, 32, 33, 34, 35, 36, 37, 38, 39, 40, 41, 42, 43, 44, 45, 6, 7, 46, 47, 48, 49, 8, 115, 116, 117, 118, 119, 120, 121, 122, 123, 124, 125, 126] rfl (by decide +kernel)
set_option maxRecDepth 20000 in
theorem gX4_takeSet_X4_takeMark : GoodIn wsX4_takeSet (wsV RX4 52 RX4 yX4_takeMark wsX4_takeMark) := goodIn_app (goodIn_of _ (by decide +kernel)) ggX4_takeSet_X4_takeMark
set_option maxRecDepth 20000 in
theorem ggX4_takeSet_X4_takeHeads : GoodIn wsX4_takeSet wsX4_takeHeads := goodIn_r _ [53, 6, 54, 3, 55, 19, 20, 21, 14, 22, 5, 23, 24, 25, 26, 1, 2, 27, 28, 29, 30, 31, 32, 33, 34, 35, 36, 37, 38, 39, 40, 115, 116, 117, 118, 119, 120, 121, 122, 123, 124, 125, 126] rfl (by decide +kernel)
set_option maxRecDepth 20000 in
theorem gX4_takeSet_X4_takeHeads : GoodIn wsX4_takeSet (wsV RX4 56 RX4 yX4_takeHeads wsX4_takeHeads) := goodIn_app (goodIn_of _ (by decide +kernel)) ggX4_takeSet_X4_takeHeads
set_option maxRecDepth 20000 in
theorem ggX4_takeSet_X4_takePlaces : GoodIn wsX4_takeSet wsX4_takePlaces := goodIn_r _ [59, 7, 6, 3, 9, 19, 20, 21, 14, 22, 5, 23, 24, 25, 26, 1, 2, 115, 116, 117, 118, 119, 120, 121, 122, 123, 124] rfl (by decide +kernel)
set_option maxRecDepth 20000 in
theorem gX4_takeSet_X4_takePlaces : GoodIn wsX4_takeSet (wsV RX4 59 RX4 yX4_takePlaces wsX4_takePlaces) := goodIn_app (goodIn_of _ (by decide +kernel)) ggX4_takeSet_X4_takePlaces
set_option maxRecDepth 20000 in
theorem ggX4_takeSet_X4_takeContainer : GoodIn wsX4_takeSet wsX4_takeContainer := goodIn_r _ [63, 9, 3, 64, 54, 10, 8, 65, 55, 31, 32, 33, 34, 35, 36, 37, 38, 39, 40, 23, 24, 25, 14, 26, 1, 2, 66, 67, 68, 69, 70, 71, 72, 73, 74, 75, 76, 77, 78, 79, 80, 81, 82, 83, 84, 85, 86, 87, 88, 89, 19, 20, 21, 22, 5, 27, 28, 29, 30, 90, 91, 92, 93, 94, 95, 96, 97, 98, 99, 100, 101, 102, 103, 104, 105, 106, 107, 108, 109, 110, 111, 112, 113, 114, 115, 116, 117, 118, 119, 120, 121, 122, 123, 124, 127, 128, 129, 130, 131, 132, 125, 126] rfl (by decide +kernel)
set_option maxRecDepth 20000 in
theorem gX4_takeSet_X4_takeContainer : GoodIn wsX4_takeSet (wsV RX4 63 RX4 yX4_takeContainer wsX4_takeContainer) := goodIn_app (goodIn_of _ (by decide +kernel)) ggX4_takeSet_X4_takeContainer
set_option maxRecDepth 20000 in
theorem ggX4_takeSet_X4_tellFault : GoodIn wsX4_takeSet wsX4_tellFault := goodIn_r _ [26, 1, 2, 115, 116, 117, 118, 119, 120, 121, 122, 123, 124] rfl (by decide +kernel)
set_option maxRecDepth 20000 in
theorem gX4_takeSet_X4_tellFault : GoodIn wsX4_takeSet (wsV RX4 67 RX4 yX4_tellFault wsX4_tellFault) := goodIn_app (goodIn_of _ (by decide +kernel)) ggX4_takeSet_X4_tellFault
theorem dX4_takeSet_0 : decode cX4_takeSet 0 = .ok (.aload_n 0, 1) := by decide +kernel
theorem dX4_takeSet_1 : decode cX4_takeSet 1 = .ok (.iconst 0, 1) := by decide +kernel
theorem dX4_takeSet_2 : decode cX4_takeSet 2 = .ok (.putfield 18, 3) := by decide +kernel
theorem dX4_takeSet_5 : decode cX4_takeSet 5 = .ok (.aload_n 0, 1) := by decide +kernel
theorem dX4_takeSet_6 : decode cX4_takeSet 6 = .ok (.iconst 0, 1) := by decide +kernel
theorem dX4_takeSet_7 : decode cX4_takeSet 7 = .ok (.putfield 22, 3) := by decide +kernel
theorem dX4_takeSet_10 : decode cX4_takeSet 10 = .ok (.aload_n 0, 1) := by decide +kernel
theorem dX4_takeSet_11 : decode cX4_takeSet 11 = .ok (.iconst 0, 1) := by decide +kernel
theorem dX4_takeSet_12 : decode cX4_takeSet 12 = .ok (.putfield 25, 3) := by decide +kernel
theorem dX4_takeSet_15 : decode cX4_takeSet 15 = .ok (.aload_n 0, 1) := by decide +kernel
theorem dX4_takeSet_16 : decode cX4_takeSet 16 = .ok (.aload_n 1, 1) := by decide +kernel
theorem dX4_takeSet_17 : decode cX4_takeSet 17 = .ok (.getfield 28, 3) := by decide +kernel
theorem dX4_takeSet_20 : decode cX4_takeSet 20 = .ok (.putfield 33, 3) := by decide +kernel
theorem dX4_takeSet_23 : decode cX4_takeSet 23 = .ok (.aload_n 0, 1) := by decide +kernel
theorem dX4_takeSet_24 : decode cX4_takeSet 24 = .ok (.iconst 0, 1) := by decide +kernel
theorem dX4_takeSet_25 : decode cX4_takeSet 25 = .ok (.putfield 36, 3) := by decide +kernel
theorem dX4_takeSet_28 : decode cX4_takeSet 28 = .ok (.aload_n 0, 1) := by decide +kernel
theorem dX4_takeSet_29 : decode cX4_takeSet 29 = .ok (.iconst 0, 1) := by decide +kernel
theorem dX4_takeSet_30 : decode cX4_takeSet 30 = .ok (.putfield 39, 3) := by decide +kernel
theorem dX4_takeSet_33 : decode cX4_takeSet 33 = .ok (.aload_n 0, 1) := by decide +kernel
theorem dX4_takeSet_34 : decode cX4_takeSet 34 = .ok (.iconst 0, 1) := by decide +kernel
theorem dX4_takeSet_35 : decode cX4_takeSet 35 = .ok (.putfield 43, 3) := by decide +kernel
theorem dX4_takeSet_38 : decode cX4_takeSet 38 = .ok (.aload_n 0, 1) := by decide +kernel
theorem dX4_takeSet_39 : decode cX4_takeSet 39 = .ok (.iconst (-1), 1) := by decide +kernel
theorem dX4_takeSet_40 : decode cX4_takeSet 40 = .ok (.putfield 46, 3) := by decide +kernel
theorem dX4_takeSet_43 : decode cX4_takeSet 43 = .ok (.aload_n 2, 1) := by decide +kernel
theorem dX4_takeSet_44 : decode cX4_takeSet 44 = .ok (.iconst 0, 1) := by decide +kernel
theorem dX4_takeSet_45 : decode cX4_takeSet 45 = .ok (.putfield 49, 3) := by decide +kernel
theorem dX4_takeSet_48 : decode cX4_takeSet 48 = .ok (.aload_n 0, 1) := by decide +kernel
theorem dX4_takeSet_49 : decode cX4_takeSet 49 = .ok (.aload_n 1, 1) := by decide +kernel
theorem dX4_takeSet_50 : decode cX4_takeSet 50 = .ok (.invokevirtual 52, 3) := by decide +kernel
theorem dX4_takeSet_53 : decode cX4_takeSet 53 = .ok (.ifCond .eq 18, 3) := by decide +kernel
theorem dX4_takeSet_56 : decode cX4_takeSet 56 = .ok (.aload_n 0, 1) := by decide +kernel
theorem dX4_takeSet_57 : decode cX4_takeSet 57 = .ok (.aload_n 1, 1) := by decide +kernel
theorem dX4_takeSet_58 : decode cX4_takeSet 58 = .ok (.invokevirtual 56, 3) := by decide +kernel
theorem dX4_takeSet_61 : decode cX4_takeSet 61 = .ok (.ifCond .eq 10, 3) := by decide +kernel
theorem dX4_takeSet_64 : decode cX4_takeSet 64 = .ok (.aload_n 0, 1) := by decide +kernel
theorem dX4_takeSet_65 : decode cX4_takeSet 65 = .ok (.invokevirtual 59, 3) := by decide +kernel
theorem dX4_takeSet_68 : decode cX4_takeSet 68 = .ok (.ifCond .ne 5, 3) := by decide +kernel
theorem dX4_takeSet_71 : decode cX4_takeSet 71 = .ok (.iconst 0, 1) := by decide +kernel
theorem dX4_takeSet_72 : decode cX4_takeSet 72 = .ok (.ireturn, 1) := by decide +kernel
theorem dX4_takeSet_73 : decode cX4_takeSet 73 = .ok (.iconst 0, 1) := by decide +kernel
theorem dX4_takeSet_74 : decode cX4_takeSet 74 = .ok (.istore_n 3, 1) := by decide +kernel
theorem dX4_takeSet_75 : decode cX4_takeSet 75 = .ok (.iload_n 3, 1) := by decide +kernel
theorem dX4_takeSet_76 : decode cX4_takeSet 76 = .ok (.aload_n 0, 1) := by decide +kernel
theorem dX4_takeSet_77 : decode cX4_takeSet 77 = .ok (.getfield 36, 3) := by decide +kernel
theorem dX4_takeSet_80 : decode cX4_takeSet 80 = .ok (.if_icmp .ge 21, 3) := by decide +kernel
theorem dX4_takeSet_83 : decode cX4_takeSet 83 = .ok (.aload_n 0, 1) := by decide +kernel
theorem dX4_takeSet_84 : decode cX4_takeSet 84 = .ok (.aload_n 1, 1) := by decide +kernel
theorem dX4_takeSet_85 : decode cX4_takeSet 85 = .ok (.aload_n 2, 1) := by decide +kernel
theorem dX4_takeSet_86 : decode cX4_takeSet 86 = .ok (.iload_n 3, 1) := by decide +kernel
theorem dX4_takeSet_87 : decode cX4_takeSet 87 = .ok (.invokevirtual 63, 3) := by decide +kernel
theorem dX4_takeSet_90 : decode cX4_takeSet 90 = .ok (.ifCond .ne 5, 3) := by decide +kernel
theorem dX4_takeSet_93 : decode cX4_takeSet 93 = .ok (.iconst 0, 1) := by decide +kernel
theorem dX4_takeSet_94 : decode cX4_takeSet 94 = .ok (.ireturn, 1) := by decide +kernel
theorem dX4_takeSet_95 : decode cX4_takeSet 95 = .ok (.iinc 3 1, 3) := by decide +kernel
theorem dX4_takeSet_98 : decode cX4_takeSet 98 = .ok (.goto (-23), 3) := by decide +kernel
theorem dX4_takeSet_101 : decode cX4_takeSet 101 = .ok (.aload_n 0, 1) := by decide +kernel
theorem dX4_takeSet_102 : decode cX4_takeSet 102 = .ok (.getfield 25, 3) := by decide +kernel
theorem dX4_takeSet_105 : decode cX4_takeSet 105 = .ok (.aload_n 0, 1) := by decide +kernel
theorem dX4_takeSet_106 : decode cX4_takeSet 106 = .ok (.getfield 33, 3) := by decide +kernel
theorem dX4_takeSet_109 : decode cX4_takeSet 109 = .ok (.if_icmp .eq 16, 3) := by decide +kernel
theorem dX4_takeSet_112 : decode cX4_takeSet 112 = .ok (.aload_n 0, 1) := by decide +kernel
theorem dX4_takeSet_113 : decode cX4_takeSet 113 = .ok (.bipush 9, 2) := by decide +kernel
theorem dX4_takeSet_115 : decode cX4_takeSet 115 = .ok (.aload_n 0, 1) := by decide +kernel
theorem dX4_takeSet_116 : decode cX4_takeSet 116 = .ok (.getfield 25, 3) := by decide +kernel
theorem dX4_takeSet_119 : decode cX4_takeSet 119 = .ok (.invokevirtual 67, 3) := by decide +kernel
theorem dX4_takeSet_122 : decode cX4_takeSet 122 = .ok (.ifCond .eq 7, 3) := by decide +kernel
theorem dX4_takeSet_125 : decode cX4_takeSet 125 = .ok (.iconst 1, 1) := by decide +kernel
theorem dX4_takeSet_126 : decode cX4_takeSet 126 = .ok (.goto 4, 3) := by decide +kernel
theorem dX4_takeSet_129 : decode cX4_takeSet 129 = .ok (.iconst 0, 1) := by decide +kernel
theorem dX4_takeSet_130 : decode cX4_takeSet 130 = .ok (.ireturn, 1) := by decide +kernel
theorem dX4_tellFault_0 : decode cX4_tellFault 0 = .ok (.aload_n 0, 1) := by decide +kernel
theorem dX4_tellFault_1 : decode cX4_tellFault 1 = .ok (.iload_n 1, 1) := by decide +kernel
theorem dX4_tellFault_2 : decode cX4_tellFault 2 = .ok (.putfield 18, 3) := by decide +kernel
theorem dX4_tellFault_5 : decode cX4_tellFault 5 = .ok (.aload_n 0, 1) := by decide +kernel
theorem dX4_tellFault_6 : decode cX4_tellFault 6 = .ok (.iload_n 2, 1) := by decide +kernel
theorem dX4_tellFault_7 : decode cX4_tellFault 7 = .ok (.putfield 22, 3) := by decide +kernel
theorem dX4_tellFault_10 : decode cX4_tellFault 10 = .ok (.iconst 0, 1) := by decide +kernel
theorem dX4_tellFault_11 : decode cX4_tellFault 11 = .ok (.ireturn, 1) := by decide +kernel
set_option maxRecDepth 20000 in
theorem ggX4_isThere_X4_tellFault : GoodIn wsX4_isThere wsX4_tellFault := goodIn_r _ [7, 8, 9, 10, 11, 12, 13, 14, 15, 16, 17, 18, 19] rfl (by decide +kernel)
set_option maxRecDepth 20000 in
theorem gX4_isThere_X4_tellFault : GoodIn wsX4_isThere (wsV RX4 67 RX4 yX4_tellFault wsX4_tellFault) := goodIn_app (goodIn_of _ (by decide +kernel)) ggX4_isThere_X4_tellFault
theorem dX4_isThere_0 : decode cX4_isThere 0 = .ok (.aload_n 0, 1) := by decide +kernel
theorem dX4_isThere_1 : decode cX4_isThere 1 = .ok (.getfield 33, 3) := by decide +kernel
theorem dX4_isThere_4 : decode cX4_isThere 4 = .ok (.aload_n 0, 1) := by decide +kernel
theorem dX4_isThere_5 : decode cX4_isThere 5 = .ok (.getfield 25, 3) := by decide +kernel
theorem dX4_isThere_8 : decode cX4_isThere 8 = .ok (.isub, 1) := by decide +kernel
theorem dX4_isThere_9 : decode cX4_isThere 9 = .ok (.iload_n 1, 1) := by decide +kernel
theorem dX4_isThere_10 : decode cX4_isThere 10 = .ok (.if_icmp .ge 15, 3) := by decide +kernel
theorem dX4_isThere_13 : decode cX4_isThere 13 = .ok (.aload_n 0, 1) := by decide +kernel
theorem dX4_isThere_14 : decode cX4_isThere 14 = .ok (.iconst 1, 1) := by decide +kernel
theorem dX4_isThere_15 : decode cX4_isThere 15 = .ok (.aload_n 0, 1) := by decide +kernel
theorem dX4_isThere_16 : decode cX4_isThere 16 = .ok (.getfield 33, 3) := by decide +kernel
theorem dX4_isThere_19 : decode cX4_isThere 19 = .ok (.invokevirtual 67, 3) := by decide +kernel
theorem dX4_isThere_22 : decode cX4_isThere 22 = .ok (.ifCond .eq 7, 3) := by decide +kernel
theorem dX4_isThere_25 : decode cX4_isThere 25 = .ok (.iconst 1, 1) := by decide +kernel
theorem dX4_isThere_26 : decode cX4_isThere 26 = .ok (.goto 4, 3) := by decide +kernel
theorem dX4_isThere_29 : decode cX4_isThere 29 = .ok (.iconst 0, 1) := by decide +kernel
theorem dX4_isThere_30 : decode cX4_isThere 30 = .ok (.ireturn, 1) := by decide +kernel
set_option maxRecDepth 20000 in
theorem ggX4_take_X0_numberAt : GoodIn wsX4_take wsX0_numberAt := goodIn_r _ [6, 7, 8, 9, 5, 10, 11, 22, 23] rfl (by decide +kernel)
set_option maxRecDepth 20000 in
theorem gX4_take_X0_numberAt : GoodIn wsX4_take (wsV RX4 71 RX0 yX0_numberAt wsX0_numberAt) := goodIn_app (goodIn_of _ (by decide +kernel)) ggX4_take_X0_numberAt
theorem dX4_take_0 : decode cX4_take 0 = .ok (.aload_n 1, 1) := by decide +kernel
theorem dX4_take_1 : decode cX4_take 1 = .ok (.aload_n 0, 1) := by decide +kernel
theorem dX4_take_2 : decode cX4_take 2 = .ok (.getfield 25, 3) := by decide +kernel
theorem dX4_take_5 : decode cX4_take 5 = .ok (.iload_n 2, 1) := by decide +kernel
theorem dX4_take_6 : decode cX4_take 6 = .ok (.invokevirtual 71, 3) := by decide +kernel
theorem dX4_take_9 : decode cX4_take 9 = .ok (.lstore_n 3, 1) := by decide +kernel
theorem dX4_take_10 : decode cX4_take 10 = .ok (.aload_n 0, 1) := by decide +kernel
theorem dX4_take_11 : decode cX4_take 11 = .ok (.dup, 1) := by decide +kernel
theorem dX4_take_12 : decode cX4_take 12 = .ok (.getfield 25, 3) := by decide +kernel
theorem dX4_take_15 : decode cX4_take 15 = .ok (.iload_n 2, 1) := by decide +kernel
theorem dX4_take_16 : decode cX4_take 16 = .ok (.iadd, 1) := by decide +kernel
theorem dX4_take_17 : decode cX4_take 17 = .ok (.putfield 25, 3) := by decide +kernel
theorem dX4_take_20 : decode cX4_take 20 = .ok (.lload_n 3, 1) := by decide +kernel
theorem dX4_take_21 : decode cX4_take 21 = .ok (.lreturn, 1) := by decide +kernel
set_option maxRecDepth 20000 in
theorem ggX4_takeMark_X4_isThere : GoodIn wsX4_takeMark wsX4_isThere := goodIn_r _ [8, 9, 10, 11, 12, 13, 7, 14, 15, 16, 43, 44, 45, 46, 47, 48, 49, 50, 51, 52] rfl (by decide +kernel)
set_option maxRecDepth 20000 in
theorem gX4_takeMark_X4_isThere : GoodIn wsX4_takeMark (wsV RX4 75 RX4 yX4_isThere wsX4_isThere) := goodIn_app (goodIn_of _ (by decide +kernel)) ggX4_takeMark_X4_isThere
set_option maxRecDepth 20000 in
theorem ggX4_takeMark_X4_take : GoodIn wsX4_takeMark wsX4_take := goodIn_r _ [20, 10, 21, 22, 23, 24, 25, 26, 27, 28, 29, 30, 43, 44, 45, 46, 47, 48, 49, 50, 51, 52, 53, 54] rfl (by decide +kernel)
set_option maxRecDepth 20000 in
theorem gX4_takeMark_X4_take : GoodIn wsX4_takeMark (wsV RX4 79 RX4 yX4_take wsX4_take) := goodIn_app (goodIn_of _ (by decide +kernel)) ggX4_takeMark_X4_take
set_option maxRecDepth 20000 in
theorem ggX4_takeMark_X4_takePlainTotal : GoodIn wsX4_takeMark wsX4_takePlainTotal := goodIn_r _ [34, 35, 36, 37, 4, 5, 6, 7, 8, 9, 10, 11, 12, 13, 14, 15, 16, 17, 18, 19, 20, 21, 22, 23, 24, 25, 26, 27, 28, 29, 30, 43, 44, 45, 46, 47, 48, 49, 50, 51, 52, 53, 54] rfl (by decide +kernel)
set_option maxRecDepth 20000 in
theorem gX4_takeMark_X4_takePlainTotal : GoodIn wsX4_takeMark (wsV RX4 85 RX4 yX4_takePlainTotal wsX4_takePlainTotal) := goodIn_app (goodIn_of _ (by decide +kernel)) ggX4_takeMark_X4_takePlainTotal
set_option maxRecDepth 20000 in
theorem ggX4_takeMark_X4_tellFault : GoodIn wsX4_takeMark wsX4_tellFault := goodIn_r _ [14, 15, 16, 43, 44, 45, 46, 47, 48, 49, 50, 51, 52] rfl (by decide +kernel)
set_option maxRecDepth 20000 in
theorem gX4_takeMark_X4_tellFault : GoodIn wsX4_takeMark (wsV RX4 67 RX4 yX4_tellFault wsX4_tellFault) := goodIn_app (goodIn_of _ (by decide +kernel)) ggX4_takeMark_X4_tellFault
set_option maxRecDepth 20000 in
theorem ggX4_takeMark_X4_takeRunBits : GoodIn wsX4_takeMark wsX4_takeRunBits := goodIn_r _ [41, 36, 42, 10, 11, 12, 13, 7, 14, 15, 16, 4, 5, 6, 8, 9, 17, 18, 19, 20, 21, 22, 23, 24, 25, 26, 27, 28, 29, 30, 43, 44, 45, 46, 47, 48, 49, 50, 51, 52, 53, 54] rfl (by decide +kernel)
set_option maxRecDepth 20000 in
theorem gX4_takeMark_X4_takeRunBits : GoodIn wsX4_takeMark (wsV RX4 92 RX4 yX4_takeRunBits wsX4_takeRunBits) := goodIn_app (goodIn_of _ (by decide +kernel)) ggX4_takeMark_X4_takeRunBits
theorem dX4_takeMark_0 : decode cX4_takeMark 0 = .ok (.aload_n 0, 1) := by decide +kernel
theorem dX4_takeMark_1 : decode cX4_takeMark 1 = .ok (.iconst 4, 1) := by decide +kernel
theorem dX4_takeMark_2 : decode cX4_takeMark 2 = .ok (.invokevirtual 75, 3) := by decide +kernel
theorem dX4_takeMark_5 : decode cX4_takeMark 5 = .ok (.ifCond .ne 5, 3) := by decide +kernel
theorem dX4_takeMark_8 : decode cX4_takeMark 8 = .ok (.iconst 0, 1) := by decide +kernel
theorem dX4_takeMark_9 : decode cX4_takeMark 9 = .ok (.ireturn, 1) := by decide +kernel
theorem dX4_takeMark_10 : decode cX4_takeMark 10 = .ok (.aload_n 0, 1) := by decide +kernel
theorem dX4_takeMark_11 : decode cX4_takeMark 11 = .ok (.aload_n 1, 1) := by decide +kernel
theorem dX4_takeMark_12 : decode cX4_takeMark 12 = .ok (.iconst 4, 1) := by decide +kernel
theorem dX4_takeMark_13 : decode cX4_takeMark 13 = .ok (.invokevirtual 79, 3) := by decide +kernel
theorem dX4_takeMark_16 : decode cX4_takeMark 16 = .ok (.lstore_n 2, 1) := by decide +kernel
theorem dX4_takeMark_17 : decode cX4_takeMark 17 = .ok (.lload_n 2, 1) := by decide +kernel
theorem dX4_takeMark_18 : decode cX4_takeMark 18 = .ok (.ldc2_w 83, 3) := by decide +kernel
theorem dX4_takeMark_21 : decode cX4_takeMark 21 = .ok (.lcmp, 1) := by decide +kernel
theorem dX4_takeMark_22 : decode cX4_takeMark 22 = .ok (.ifCond .ne 9, 3) := by decide +kernel
theorem dX4_takeMark_25 : decode cX4_takeMark 25 = .ok (.aload_n 0, 1) := by decide +kernel
theorem dX4_takeMark_26 : decode cX4_takeMark 26 = .ok (.aload_n 1, 1) := by decide +kernel
theorem dX4_takeMark_27 : decode cX4_takeMark 27 = .ok (.invokevirtual 85, 3) := by decide +kernel
theorem dX4_takeMark_30 : decode cX4_takeMark 30 = .ok (.ireturn, 1) := by decide +kernel
theorem dX4_takeMark_31 : decode cX4_takeMark 31 = .ok (.lload_n 2, 1) := by decide +kernel
theorem dX4_takeMark_32 : decode cX4_takeMark 32 = .ok (.ldc2_w 88, 3) := by decide +kernel
theorem dX4_takeMark_35 : decode cX4_takeMark 35 = .ok (.land, 1) := by decide +kernel
theorem dX4_takeMark_36 : decode cX4_takeMark 36 = .ok (.ldc2_w 90, 3) := by decide +kernel
theorem dX4_takeMark_39 : decode cX4_takeMark 39 = .ok (.lcmp, 1) := by decide +kernel
theorem dX4_takeMark_40 : decode cX4_takeMark 40 = .ok (.ifCond .eq 10, 3) := by decide +kernel
theorem dX4_takeMark_43 : decode cX4_takeMark 43 = .ok (.aload_n 0, 1) := by decide +kernel
theorem dX4_takeMark_44 : decode cX4_takeMark 44 = .ok (.iconst 2, 1) := by decide +kernel
theorem dX4_takeMark_45 : decode cX4_takeMark 45 = .ok (.iconst 0, 1) := by decide +kernel
theorem dX4_takeMark_46 : decode cX4_takeMark 46 = .ok (.invokevirtual 67, 3) := by decide +kernel
theorem dX4_takeMark_49 : decode cX4_takeMark 49 = .ok (.ireturn, 1) := by decide +kernel
theorem dX4_takeMark_50 : decode cX4_takeMark 50 = .ok (.aload_n 0, 1) := by decide +kernel
theorem dX4_takeMark_51 : decode cX4_takeMark 51 = .ok (.aload_n 1, 1) := by decide +kernel
theorem dX4_takeMark_52 : decode cX4_takeMark 52 = .ok (.lload_n 2, 1) := by decide +kernel
theorem dX4_takeMark_53 : decode cX4_takeMark 53 = .ok (.bipush 16, 2) := by decide +kernel
theorem dX4_takeMark_55 : decode cX4_takeMark 55 = .ok (.lushr, 1) := by decide +kernel
theorem dX4_takeMark_56 : decode cX4_takeMark 56 = .ok (.l2i, 1) := by decide +kernel
theorem dX4_takeMark_57 : decode cX4_takeMark 57 = .ok (.iconst 1, 1) := by decide +kernel
theorem dX4_takeMark_58 : decode cX4_takeMark 58 = .ok (.iadd, 1) := by decide +kernel
theorem dX4_takeMark_59 : decode cX4_takeMark 59 = .ok (.invokevirtual 92, 3) := by decide +kernel
theorem dX4_takeMark_62 : decode cX4_takeMark 62 = .ok (.ireturn, 1) := by decide +kernel
set_option maxRecDepth 20000 in
theorem ggX4_takePlainTotal_X4_isThere : GoodIn wsX4_takePlainTotal wsX4_isThere := goodIn_r _ [8, 9, 10, 11, 12, 13, 7, 14, 15, 16, 31, 32, 33, 34, 35, 36, 37, 38, 39, 40] rfl (by decide +kernel)
set_option maxRecDepth 20000 in
theorem gX4_takePlainTotal_X4_isThere : GoodIn wsX4_takePlainTotal (wsV RX4 75 RX4 yX4_isThere wsX4_isThere) := goodIn_app (goodIn_of _ (by decide +kernel)) ggX4_takePlainTotal_X4_isThere
set_option maxRecDepth 20000 in
theorem ggX4_takePlainTotal_X4_take : GoodIn wsX4_takePlainTotal wsX4_take := goodIn_r _ [20, 10, 21, 22, 23, 24, 25, 26, 27, 28, 29, 30, 31, 32, 33, 34, 35, 36, 37, 38, 39, 40, 41, 42] rfl (by decide +kernel)
set_option maxRecDepth 20000 in
theorem gX4_takePlainTotal_X4_take : GoodIn wsX4_takePlainTotal (wsV RX4 79 RX4 yX4_take wsX4_take) := goodIn_app (goodIn_of _ (by decide +kernel)) ggX4_takePlainTotal_X4_take
set_option maxRecDepth 20000 in
theorem ggX4_takePlainTotal_X4_tellFault : GoodIn wsX4_takePlainTotal wsX4_tellFault := goodIn_r _ [14, 15, 16, 31, 32, 33, 34, 35, 36, 37, 38, 39, 40] rfl (by decide +kernel)
set_option maxRecDepth 20000 in
theorem gX4_takePlainTotal_X4_tellFault : GoodIn wsX4_takePlainTotal (wsV RX4 67 RX4 yX4_tellFault wsX4_tellFault) := goodIn_app (goodIn_of _ (by decide +kernel)) ggX4_takePlainTotal_X4_tellFault
theorem dX4_takePlainTotal_0 : decode cX4_takePlainTotal 0 = .ok (.aload_n 0, 1) := by decide +kernel
theorem dX4_takePlainTotal_1 : decode cX4_takePlainTotal 1 = .ok (.iconst 4, 1) := by decide +kernel
theorem dX4_takePlainTotal_2 : decode cX4_takePlainTotal 2 = .ok (.invokevirtual 75, 3) := by decide +kernel
theorem dX4_takePlainTotal_5 : decode cX4_takePlainTotal 5 = .ok (.ifCond .ne 5, 3) := by decide +kernel
theorem dX4_takePlainTotal_8 : decode cX4_takePlainTotal 8 = .ok (.iconst 0, 1) := by decide +kernel
theorem dX4_takePlainTotal_9 : decode cX4_takePlainTotal 9 = .ok (.ireturn, 1) := by decide +kernel
theorem dX4_takePlainTotal_10 : decode cX4_takePlainTotal 10 = .ok (.aload_n 0, 1) := by decide +kernel
theorem dX4_takePlainTotal_11 : decode cX4_takePlainTotal 11 = .ok (.aload_n 1, 1) := by decide +kernel
theorem dX4_takePlainTotal_12 : decode cX4_takePlainTotal 12 = .ok (.iconst 4, 1) := by decide +kernel
theorem dX4_takePlainTotal_13 : decode cX4_takePlainTotal 13 = .ok (.invokevirtual 79, 3) := by decide +kernel
theorem dX4_takePlainTotal_16 : decode cX4_takePlainTotal 16 = .ok (.lstore_n 2, 1) := by decide +kernel
theorem dX4_takePlainTotal_17 : decode cX4_takePlainTotal 17 = .ok (.lload_n 2, 1) := by decide +kernel
theorem dX4_takePlainTotal_18 : decode cX4_takePlainTotal 18 = .ok (.ldc2_w 96, 3) := by decide +kernel
theorem dX4_takePlainTotal_21 : decode cX4_takePlainTotal 21 = .ok (.lcmp, 1) := by decide +kernel
theorem dX4_takePlainTotal_22 : decode cX4_takePlainTotal 22 = .ok (.ifCond .le 10, 3) := by decide +kernel
theorem dX4_takePlainTotal_25 : decode cX4_takePlainTotal 25 = .ok (.aload_n 0, 1) := by decide +kernel
theorem dX4_takePlainTotal_26 : decode cX4_takePlainTotal 26 = .ok (.iconst 3, 1) := by decide +kernel
theorem dX4_takePlainTotal_27 : decode cX4_takePlainTotal 27 = .ok (.iconst 4, 1) := by decide +kernel
theorem dX4_takePlainTotal_28 : decode cX4_takePlainTotal 28 = .ok (.invokevirtual 67, 3) := by decide +kernel
theorem dX4_takePlainTotal_31 : decode cX4_takePlainTotal 31 = .ok (.ireturn, 1) := by decide +kernel
theorem dX4_takePlainTotal_32 : decode cX4_takePlainTotal 32 = .ok (.aload_n 0, 1) := by decide +kernel
theorem dX4_takePlainTotal_33 : decode cX4_takePlainTotal 33 = .ok (.lload_n 2, 1) := by decide +kernel
theorem dX4_takePlainTotal_34 : decode cX4_takePlainTotal 34 = .ok (.l2i, 1) := by decide +kernel
theorem dX4_takePlainTotal_35 : decode cX4_takePlainTotal 35 = .ok (.putfield 36, 3) := by decide +kernel
theorem dX4_takePlainTotal_38 : decode cX4_takePlainTotal 38 = .ok (.aload_n 0, 1) := by decide +kernel
theorem dX4_takePlainTotal_39 : decode cX4_takePlainTotal 39 = .ok (.iconst 1, 1) := by decide +kernel
theorem dX4_takePlainTotal_40 : decode cX4_takePlainTotal 40 = .ok (.putfield 39, 3) := by decide +kernel
theorem dX4_takePlainTotal_43 : decode cX4_takePlainTotal 43 = .ok (.iconst 1, 1) := by decide +kernel
theorem dX4_takePlainTotal_44 : decode cX4_takePlainTotal 44 = .ok (.ireturn, 1) := by decide +kernel
set_option maxRecDepth 20000 in
theorem ggX4_takeRunBits_X4_tellFault : GoodIn wsX4_takeRunBits wsX4_tellFault := goodIn_r _ [8, 9, 10, 30, 31, 32, 33, 34, 35, 36, 37, 38, 39] rfl (by decide +kernel)
set_option maxRecDepth 20000 in
theorem gX4_takeRunBits_X4_tellFault : GoodIn wsX4_takeRunBits (wsV RX4 67 RX4 yX4_tellFault wsX4_tellFault) := goodIn_app (goodIn_of _ (by decide +kernel)) ggX4_takeRunBits_X4_tellFault
set_option maxRecDepth 20000 in
theorem ggX4_takeRunBits_X4_isThere : GoodIn wsX4_takeRunBits wsX4_isThere := goodIn_r _ [14, 15, 3, 4, 5, 6, 7, 8, 9, 10, 30, 31, 32, 33, 34, 35, 36, 37, 38, 39] rfl (by decide +kernel)
set_option maxRecDepth 20000 in
theorem gX4_takeRunBits_X4_isThere : GoodIn wsX4_takeRunBits (wsV RX4 75 RX4 yX4_isThere wsX4_isThere) := goodIn_app (goodIn_of _ (by decide +kernel)) ggX4_takeRunBits_X4_isThere
set_option maxRecDepth 20000 in
theorem ggX4_takeRunBits_X4_take : GoodIn wsX4_takeRunBits wsX4_take := goodIn_r _ [19, 3, 20, 21, 22, 23, 24, 25, 26, 27, 28, 29, 30, 31, 32, 33, 34, 35, 36, 37, 38, 39, 40, 41] rfl (by decide +kernel)
set_option maxRecDepth 20000 in
theorem gX4_takeRunBits_X4_take : GoodIn wsX4_takeRunBits (wsV RX4 79 RX4 yX4_take wsX4_take) := goodIn_app (goodIn_of _ (by decide +kernel)) ggX4_takeRunBits_X4_take
theorem dX4_takeRunBits_0 : decode cX4_takeRunBits 0 = .ok (.iload_n 2, 1) := by decide +kernel
theorem dX4_takeRunBits_1 : decode cX4_takeRunBits 1 = .ok (.bipush 6, 2) := by decide +kernel
theorem dX4_takeRunBits_3 : decode cX4_takeRunBits 3 = .ok (.if_icmp .le 10, 3) := by decide +kernel
theorem dX4_takeRunBits_6 : decode cX4_takeRunBits 6 = .ok (.aload_n 0, 1) := by decide +kernel
theorem dX4_takeRunBits_7 : decode cX4_takeRunBits 7 = .ok (.iconst 3, 1) := by decide +kernel
theorem dX4_takeRunBits_8 : decode cX4_takeRunBits 8 = .ok (.iconst 2, 1) := by decide +kernel
theorem dX4_takeRunBits_9 : decode cX4_takeRunBits 9 = .ok (.invokevirtual 67, 3) := by decide +kernel
theorem dX4_takeRunBits_12 : decode cX4_takeRunBits 12 = .ok (.ireturn, 1) := by decide +kernel
theorem dX4_takeRunBits_13 : decode cX4_takeRunBits 13 = .ok (.aload_n 0, 1) := by decide +kernel
theorem dX4_takeRunBits_14 : decode cX4_takeRunBits 14 = .ok (.iconst 1, 1) := by decide +kernel
theorem dX4_takeRunBits_15 : decode cX4_takeRunBits 15 = .ok (.invokevirtual 75, 3) := by decide +kernel
theorem dX4_takeRunBits_18 : decode cX4_takeRunBits 18 = .ok (.ifCond .ne 5, 3) := by decide +kernel
theorem dX4_takeRunBits_21 : decode cX4_takeRunBits 21 = .ok (.iconst 0, 1) := by decide +kernel
theorem dX4_takeRunBits_22 : decode cX4_takeRunBits 22 = .ok (.ireturn, 1) := by decide +kernel
theorem dX4_takeRunBits_23 : decode cX4_takeRunBits 23 = .ok (.aload_n 0, 1) := by decide +kernel
theorem dX4_takeRunBits_24 : decode cX4_takeRunBits 24 = .ok (.iload_n 2, 1) := by decide +kernel
theorem dX4_takeRunBits_25 : decode cX4_takeRunBits 25 = .ok (.putfield 36, 3) := by decide +kernel
theorem dX4_takeRunBits_28 : decode cX4_takeRunBits 28 = .ok (.aload_n 0, 1) := by decide +kernel
theorem dX4_takeRunBits_29 : decode cX4_takeRunBits 29 = .ok (.aload_n 0, 1) := by decide +kernel
theorem dX4_takeRunBits_30 : decode cX4_takeRunBits 30 = .ok (.aload_n 1, 1) := by decide +kernel
theorem dX4_takeRunBits_31 : decode cX4_takeRunBits 31 = .ok (.iconst 1, 1) := by decide +kernel
theorem dX4_takeRunBits_32 : decode cX4_takeRunBits 32 = .ok (.invokevirtual 79, 3) := by decide +kernel
theorem dX4_takeRunBits_35 : decode cX4_takeRunBits 35 = .ok (.l2i, 1) := by decide +kernel
theorem dX4_takeRunBits_36 : decode cX4_takeRunBits 36 = .ok (.putfield 43, 3) := by decide +kernel
theorem dX4_takeRunBits_39 : decode cX4_takeRunBits 39 = .ok (.aload_n 0, 1) := by decide +kernel
theorem dX4_takeRunBits_40 : decode cX4_takeRunBits 40 = .ok (.getfield 43, 3) := by decide +kernel
theorem dX4_takeRunBits_43 : decode cX4_takeRunBits 43 = .ok (.aload_n 0, 1) := by decide +kernel
theorem dX4_takeRunBits_44 : decode cX4_takeRunBits 44 = .ok (.getfield 36, 3) := by decide +kernel
theorem dX4_takeRunBits_47 : decode cX4_takeRunBits 47 = .ok (.iushr, 1) := by decide +kernel
theorem dX4_takeRunBits_48 : decode cX4_takeRunBits 48 = .ok (.ifCond .eq 17, 3) := by decide +kernel
theorem dX4_takeRunBits_51 : decode cX4_takeRunBits 51 = .ok (.aload_n 0, 1) := by decide +kernel
theorem dX4_takeRunBits_52 : decode cX4_takeRunBits 52 = .ok (.iconst 4, 1) := by decide +kernel
theorem dX4_takeRunBits_53 : decode cX4_takeRunBits 53 = .ok (.aload_n 0, 1) := by decide +kernel
theorem dX4_takeRunBits_54 : decode cX4_takeRunBits 54 = .ok (.getfield 25, 3) := by decide +kernel
theorem dX4_takeRunBits_57 : decode cX4_takeRunBits 57 = .ok (.iconst 1, 1) := by decide +kernel
theorem dX4_takeRunBits_58 : decode cX4_takeRunBits 58 = .ok (.isub, 1) := by decide +kernel
theorem dX4_takeRunBits_59 : decode cX4_takeRunBits 59 = .ok (.invokevirtual 67, 3) := by decide +kernel
theorem dX4_takeRunBits_62 : decode cX4_takeRunBits 62 = .ok (.ifCond .eq 7, 3) := by decide +kernel
theorem dX4_takeRunBits_65 : decode cX4_takeRunBits 65 = .ok (.iconst 1, 1) := by decide +kernel
theorem dX4_takeRunBits_66 : decode cX4_takeRunBits 66 = .ok (.goto 4, 3) := by decide +kernel
theorem dX4_takeRunBits_69 : decode cX4_takeRunBits 69 = .ok (.iconst 0, 1) := by decide +kernel
theorem dX4_takeRunBits_70 : decode cX4_takeRunBits 70 = .ok (.ireturn, 1) := by decide +kernel
set_option maxRecDepth 20000 in
theorem ggX4_takeHeads_X4_isThere : GoodIn wsX4_takeHeads wsX4_isThere := goodIn_r _ [9, 10, 3, 11, 12, 13, 8, 14, 15, 16, 31, 32, 33, 34, 35, 36, 37, 38, 39, 40] rfl (by decide +kernel)
set_option maxRecDepth 20000 in
theorem gX4_takeHeads_X4_isThere : GoodIn wsX4_takeHeads (wsV RX4 75 RX4 yX4_isThere wsX4_isThere) := goodIn_app (goodIn_of _ (by decide +kernel)) ggX4_takeHeads_X4_isThere
set_option maxRecDepth 20000 in
theorem ggX4_takeHeads_X4_take : GoodIn wsX4_takeHeads wsX4_take := goodIn_r _ [20, 3, 21, 22, 23, 24, 25, 26, 27, 28, 29, 30, 31, 32, 33, 34, 35, 36, 37, 38, 39, 40, 41, 42] rfl (by decide +kernel)
set_option maxRecDepth 20000 in
theorem gX4_takeHeads_X4_take : GoodIn wsX4_takeHeads (wsV RX4 79 RX4 yX4_take wsX4_take) := goodIn_app (goodIn_of _ (by decide +kernel)) ggX4_takeHeads_X4_take
set_option maxRecDepth 20000 in
theorem ggX4_takeHeads_X4_tellFault : GoodIn wsX4_takeHeads wsX4_tellFault := goodIn_r _ [14, 15, 16, 31, 32, 33, 34, 35, 36, 37, 38, 39, 40] rfl (by decide +kernel)
set_option maxRecDepth 20000 in
theorem gX4_takeHeads_X4_tellFault : GoodIn wsX4_takeHeads (wsV RX4 67 RX4 yX4_tellFault wsX4_tellFault) := goodIn_app (goodIn_of _ (by decide +kernel)) ggX4_takeHeads_X4_tellFault
theorem dX4_takeHeads_0 : decode cX4_takeHeads 0 = .ok (.iconst 0, 1) := by decide +kernel
theorem dX4_takeHeads_1 : decode cX4_takeHeads 1 = .ok (.istore_n 2, 1) := by decide +kernel
theorem dX4_takeHeads_2 : decode cX4_takeHeads 2 = .ok (.iload_n 2, 1) := by decide +kernel
theorem dX4_takeHeads_3 : decode cX4_takeHeads 3 = .ok (.aload_n 0, 1) := by decide +kernel
theorem dX4_takeHeads_4 : decode cX4_takeHeads 4 = .ok (.getfield 36, 3) := by decide +kernel
theorem dX4_takeHeads_7 : decode cX4_takeHeads 7 = .ok (.if_icmp .ge 90, 3) := by decide +kernel
theorem dX4_takeHeads_10 : decode cX4_takeHeads 10 = .ok (.aload_n 0, 1) := by decide +kernel
theorem dX4_takeHeads_11 : decode cX4_takeHeads 11 = .ok (.iconst 2, 1) := by decide +kernel
theorem dX4_takeHeads_12 : decode cX4_takeHeads 12 = .ok (.invokevirtual 75, 3) := by decide +kernel
theorem dX4_takeHeads_15 : decode cX4_takeHeads 15 = .ok (.ifCond .ne 5, 3) := by decide +kernel
theorem dX4_takeHeads_18 : decode cX4_takeHeads 18 = .ok (.iconst 0, 1) := by decide +kernel
theorem dX4_takeHeads_19 : decode cX4_takeHeads 19 = .ok (.ireturn, 1) := by decide +kernel
theorem dX4_takeHeads_20 : decode cX4_takeHeads 20 = .ok (.aload_n 0, 1) := by decide +kernel
theorem dX4_takeHeads_21 : decode cX4_takeHeads 21 = .ok (.getfield 9, 3) := by decide +kernel
theorem dX4_takeHeads_24 : decode cX4_takeHeads 24 = .ok (.iload_n 2, 1) := by decide +kernel
theorem dX4_takeHeads_25 : decode cX4_takeHeads 25 = .ok (.aload_n 0, 1) := by decide +kernel
theorem dX4_takeHeads_26 : decode cX4_takeHeads 26 = .ok (.aload_n 1, 1) := by decide +kernel
theorem dX4_takeHeads_27 : decode cX4_takeHeads 27 = .ok (.iconst 2, 1) := by decide +kernel
theorem dX4_takeHeads_28 : decode cX4_takeHeads 28 = .ok (.invokevirtual 79, 3) := by decide +kernel
theorem dX4_takeHeads_31 : decode cX4_takeHeads 31 = .ok (.l2i, 1) := by decide +kernel
theorem dX4_takeHeads_32 : decode cX4_takeHeads 32 = .ok (.iastore, 1) := by decide +kernel
theorem dX4_takeHeads_33 : decode cX4_takeHeads 33 = .ok (.iload_n 2, 1) := by decide +kernel
theorem dX4_takeHeads_34 : decode cX4_takeHeads 34 = .ok (.ifCond .le 32, 3) := by decide +kernel
theorem dX4_takeHeads_37 : decode cX4_takeHeads 37 = .ok (.aload_n 0, 1) := by decide +kernel
theorem dX4_takeHeads_38 : decode cX4_takeHeads 38 = .ok (.getfield 9, 3) := by decide +kernel
theorem dX4_takeHeads_41 : decode cX4_takeHeads 41 = .ok (.iload_n 2, 1) := by decide +kernel
theorem dX4_takeHeads_42 : decode cX4_takeHeads 42 = .ok (.iaload, 1) := by decide +kernel
theorem dX4_takeHeads_43 : decode cX4_takeHeads 43 = .ok (.aload_n 0, 1) := by decide +kernel
theorem dX4_takeHeads_44 : decode cX4_takeHeads 44 = .ok (.getfield 9, 3) := by decide +kernel
theorem dX4_takeHeads_47 : decode cX4_takeHeads 47 = .ok (.iload_n 2, 1) := by decide +kernel
theorem dX4_takeHeads_48 : decode cX4_takeHeads 48 = .ok (.iconst 1, 1) := by decide +kernel
theorem dX4_takeHeads_49 : decode cX4_takeHeads 49 = .ok (.isub, 1) := by decide +kernel
theorem dX4_takeHeads_50 : decode cX4_takeHeads 50 = .ok (.iaload, 1) := by decide +kernel
theorem dX4_takeHeads_51 : decode cX4_takeHeads 51 = .ok (.if_icmp .gt 15, 3) := by decide +kernel
theorem dX4_takeHeads_54 : decode cX4_takeHeads 54 = .ok (.aload_n 0, 1) := by decide +kernel
theorem dX4_takeHeads_55 : decode cX4_takeHeads 55 = .ok (.iconst 5, 1) := by decide +kernel
theorem dX4_takeHeads_56 : decode cX4_takeHeads 56 = .ok (.aload_n 0, 1) := by decide +kernel
theorem dX4_takeHeads_57 : decode cX4_takeHeads 57 = .ok (.getfield 25, 3) := by decide +kernel
theorem dX4_takeHeads_60 : decode cX4_takeHeads 60 = .ok (.iconst 2, 1) := by decide +kernel
theorem dX4_takeHeads_61 : decode cX4_takeHeads 61 = .ok (.isub, 1) := by decide +kernel
theorem dX4_takeHeads_62 : decode cX4_takeHeads 62 = .ok (.invokevirtual 67, 3) := by decide +kernel
theorem dX4_takeHeads_65 : decode cX4_takeHeads 65 = .ok (.ireturn, 1) := by decide +kernel
theorem dX4_takeHeads_66 : decode cX4_takeHeads 66 = .ok (.aload_n 0, 1) := by decide +kernel
theorem dX4_takeHeads_67 : decode cX4_takeHeads 67 = .ok (.iconst 2, 1) := by decide +kernel
theorem dX4_takeHeads_68 : decode cX4_takeHeads 68 = .ok (.invokevirtual 75, 3) := by decide +kernel
theorem dX4_takeHeads_71 : decode cX4_takeHeads 71 = .ok (.ifCond .ne 5, 3) := by decide +kernel
theorem dX4_takeHeads_74 : decode cX4_takeHeads 74 = .ok (.iconst 0, 1) := by decide +kernel
theorem dX4_takeHeads_75 : decode cX4_takeHeads 75 = .ok (.ireturn, 1) := by decide +kernel
theorem dX4_takeHeads_76 : decode cX4_takeHeads 76 = .ok (.aload_n 0, 1) := by decide +kernel
theorem dX4_takeHeads_77 : decode cX4_takeHeads 77 = .ok (.getfield 15, 3) := by decide +kernel
theorem dX4_takeHeads_80 : decode cX4_takeHeads 80 = .ok (.iload_n 2, 1) := by decide +kernel
theorem dX4_takeHeads_81 : decode cX4_takeHeads 81 = .ok (.aload_n 0, 1) := by decide +kernel
theorem dX4_takeHeads_82 : decode cX4_takeHeads 82 = .ok (.aload_n 1, 1) := by decide +kernel
theorem dX4_takeHeads_83 : decode cX4_takeHeads 83 = .ok (.iconst 2, 1) := by decide +kernel
theorem dX4_takeHeads_84 : decode cX4_takeHeads 84 = .ok (.invokevirtual 79, 3) := by decide +kernel
theorem dX4_takeHeads_87 : decode cX4_takeHeads 87 = .ok (.l2i, 1) := by decide +kernel
theorem dX4_takeHeads_88 : decode cX4_takeHeads 88 = .ok (.iconst 1, 1) := by decide +kernel
theorem dX4_takeHeads_89 : decode cX4_takeHeads 89 = .ok (.iadd, 1) := by decide +kernel
theorem dX4_takeHeads_90 : decode cX4_takeHeads 90 = .ok (.iastore, 1) := by decide +kernel
theorem dX4_takeHeads_91 : decode cX4_takeHeads 91 = .ok (.iinc 2 1, 3) := by decide +kernel
theorem dX4_takeHeads_94 : decode cX4_takeHeads 94 = .ok (.goto (-92), 3) := by decide +kernel
theorem dX4_takeHeads_97 : decode cX4_takeHeads 97 = .ok (.iconst 1, 1) := by decide +kernel
theorem dX4_takeHeads_98 : decode cX4_takeHeads 98 = .ok (.ireturn, 1) := by decide +kernel
set_option maxRecDepth 20000 in
theorem ggX4_takePlaces_X4_isThere : GoodIn wsX4_takePlaces wsX4_isThere := goodIn_r _ [9, 10, 3, 11, 12, 13, 8, 14, 15, 16, 17, 18, 19, 20, 21, 22, 23, 24, 25, 26] rfl (by decide +kernel)
set_option maxRecDepth 20000 in
theorem gX4_takePlaces_X4_isThere : GoodIn wsX4_takePlaces (wsV RX4 75 RX4 yX4_isThere wsX4_isThere) := goodIn_app (goodIn_of _ (by decide +kernel)) ggX4_takePlaces_X4_isThere
theorem dX4_takePlaces_0 : decode cX4_takePlaces 0 = .ok (.aload_n 0, 1) := by decide +kernel
theorem dX4_takePlaces_1 : decode cX4_takePlaces 1 = .ok (.getfield 39, 3) := by decide +kernel
theorem dX4_takePlaces_4 : decode cX4_takePlaces 4 = .ok (.ifCond .ne 13, 3) := by decide +kernel
theorem dX4_takePlaces_7 : decode cX4_takePlaces 7 = .ok (.aload_n 0, 1) := by decide +kernel
theorem dX4_takePlaces_8 : decode cX4_takePlaces 8 = .ok (.getfield 36, 3) := by decide +kernel
theorem dX4_takePlaces_11 : decode cX4_takePlaces 11 = .ok (.iconst 4, 1) := by decide +kernel
theorem dX4_takePlaces_12 : decode cX4_takePlaces 12 = .ok (.if_icmp .ge 5, 3) := by decide +kernel
theorem dX4_takePlaces_15 : decode cX4_takePlaces 15 = .ok (.iconst 1, 1) := by decide +kernel
theorem dX4_takePlaces_16 : decode cX4_takePlaces 16 = .ok (.ireturn, 1) := by decide +kernel
theorem dX4_takePlaces_17 : decode cX4_takePlaces 17 = .ok (.aload_n 0, 1) := by decide +kernel
theorem dX4_takePlaces_18 : decode cX4_takePlaces 18 = .ok (.iconst 4, 1) := by decide +kernel
theorem dX4_takePlaces_19 : decode cX4_takePlaces 19 = .ok (.aload_n 0, 1) := by decide +kernel
theorem dX4_takePlaces_20 : decode cX4_takePlaces 20 = .ok (.getfield 36, 3) := by decide +kernel
theorem dX4_takePlaces_23 : decode cX4_takePlaces 23 = .ok (.imul, 1) := by decide +kernel
theorem dX4_takePlaces_24 : decode cX4_takePlaces 24 = .ok (.invokevirtual 75, 3) := by decide +kernel
theorem dX4_takePlaces_27 : decode cX4_takePlaces 27 = .ok (.ifCond .ne 5, 3) := by decide +kernel
theorem dX4_takePlaces_30 : decode cX4_takePlaces 30 = .ok (.iconst 0, 1) := by decide +kernel
theorem dX4_takePlaces_31 : decode cX4_takePlaces 31 = .ok (.ireturn, 1) := by decide +kernel
theorem dX4_takePlaces_32 : decode cX4_takePlaces 32 = .ok (.aload_n 0, 1) := by decide +kernel
theorem dX4_takePlaces_33 : decode cX4_takePlaces 33 = .ok (.aload_n 0, 1) := by decide +kernel
theorem dX4_takePlaces_34 : decode cX4_takePlaces 34 = .ok (.getfield 25, 3) := by decide +kernel
theorem dX4_takePlaces_37 : decode cX4_takePlaces 37 = .ok (.putfield 46, 3) := by decide +kernel
theorem dX4_takePlaces_40 : decode cX4_takePlaces 40 = .ok (.aload_n 0, 1) := by decide +kernel
theorem dX4_takePlaces_41 : decode cX4_takePlaces 41 = .ok (.dup, 1) := by decide +kernel
theorem dX4_takePlaces_42 : decode cX4_takePlaces 42 = .ok (.getfield 25, 3) := by decide +kernel
theorem dX4_takePlaces_45 : decode cX4_takePlaces 45 = .ok (.iconst 4, 1) := by decide +kernel
theorem dX4_takePlaces_46 : decode cX4_takePlaces 46 = .ok (.aload_n 0, 1) := by decide +kernel
theorem dX4_takePlaces_47 : decode cX4_takePlaces 47 = .ok (.getfield 36, 3) := by decide +kernel
theorem dX4_takePlaces_50 : decode cX4_takePlaces 50 = .ok (.imul, 1) := by decide +kernel
theorem dX4_takePlaces_51 : decode cX4_takePlaces 51 = .ok (.iadd, 1) := by decide +kernel
theorem dX4_takePlaces_52 : decode cX4_takePlaces 52 = .ok (.putfield 25, 3) := by decide +kernel
theorem dX4_takePlaces_55 : decode cX4_takePlaces 55 = .ok (.iconst 1, 1) := by decide +kernel
theorem dX4_takePlaces_56 : decode cX4_takePlaces 56 = .ok (.ireturn, 1) := by decide +kernel
set_option maxRecDepth 20000 in
theorem ggX4_takeContainer_X0_numberAt : GoodIn wsX4_takeContainer wsX0_numberAt := goodIn_r _ [13, 14, 15, 16, 12, 17, 18, 100, 101] rfl (by decide +kernel)
set_option maxRecDepth 20000 in
theorem gX4_takeContainer_X0_numberAt : GoodIn wsX4_takeContainer (wsV RX4 71 RX0 yX0_numberAt wsX0_numberAt) := goodIn_app (goodIn_of _ (by decide +kernel)) ggX4_takeContainer_X0_numberAt
set_option maxRecDepth 20000 in
theorem ggX4_takeContainer_X4_tellFault : GoodIn wsX4_takeContainer wsX4_tellFault := goodIn_r _ [23, 24, 25, 84, 85, 86, 87, 88, 89, 90, 91, 92, 93] rfl (by decide +kernel)
set_option maxRecDepth 20000 in
theorem gX4_takeContainer_X4_tellFault : GoodIn wsX4_takeContainer (wsV RX4 67 RX4 yX4_tellFault wsX4_tellFault) := goodIn_app (goodIn_of _ (by decide +kernel)) ggX4_takeContainer_X4_tellFault
set_option maxRecDepth 20000 in
theorem ggX4_takeContainer_X1_begin : GoodIn wsX4_takeContainer wsX1_begin := goodIn_r _ [30, 31, 32, 33, 34, 35, 36, 37, 29, 38, 39, 40, 41, 42, 43, 96, 97, 98, 99] rfl (by decide +kernel)
set_option maxRecDepth 20000 in
theorem gX4_takeContainer_X1_begin : GoodIn wsX4_takeContainer (wsV RX4 102 RX1 yX1_begin wsX1_begin) := goodIn_app (goodIn_of _ (by decide +kernel)) ggX4_takeContainer_X1_begin
set_option maxRecDepth 20000 in
theorem ggX4_takeContainer_X4_takeRuns : GoodIn wsX4_takeContainer wsX4_takeRuns := goodIn_r _ [47, 48, 2, 49, 50, 51, 52, 22, 53, 54, 19, 20, 21, 23, 24, 25, 55, 56, 57, 58, 9, 10, 11, 12, 13, 14, 15, 16, 17, 18, 59, 60, 61, 29, 62, 63, 31, 34, 64, 65, 66, 67, 68, 69, 70, 71, 72, 73, 84, 85, 86, 87, 88, 89, 90, 91, 92, 93, 96, 97, 98, 99, 100, 101] rfl (by decide +kernel)
set_option maxRecDepth 20000 in
theorem gX4_takeContainer_X4_takeRuns : GoodIn wsX4_takeContainer (wsV RX4 111 RX4 yX4_takeRuns wsX4_takeRuns) := goodIn_app (goodIn_of _ (by decide +kernel)) ggX4_takeContainer_X4_takeRuns
set_option maxRecDepth 20000 in
theorem ggX4_takeContainer_X4_takeArray : GoodIn wsX4_takeContainer wsX4_takeArray := goodIn_r _ [77, 2, 50, 51, 52, 22, 53, 54, 19, 20, 21, 23, 24, 25, 55, 56, 57, 58, 9, 10, 11, 12, 13, 14, 15, 16, 17, 18, 59, 60, 61, 29, 62, 63, 31, 34, 64, 65, 66, 67, 68, 69, 70, 71, 72, 73, 84, 85, 86, 87, 88, 89, 90, 91, 92, 93, 100, 101, 96, 97, 98, 99] rfl (by decide +kernel)
set_option maxRecDepth 20000 in
theorem gX4_takeContainer_X4_takeArray : GoodIn wsX4_takeContainer (wsV RX4 115 RX4 yX4_takeArray wsX4_takeArray) := goodIn_app (goodIn_of _ (by decide +kernel)) ggX4_takeContainer_X4_takeArray
set_option maxRecDepth 20000 in
theorem ggX4_takeContainer_X4_takeBitmap : GoodIn wsX4_takeContainer wsX4_takeBitmap := goodIn_r _ [81, 82, 49, 2, 50, 51, 52, 22, 53, 54, 19, 20, 21, 23, 24, 25, 55, 56, 57, 58, 9, 10, 11, 12, 13, 14, 15, 16, 17, 18, 83, 68, 69, 70, 71, 72, 73, 96, 97, 98, 99, 84, 85, 86, 87, 88, 89, 90, 91, 92, 93, 100, 101] rfl (by decide +kernel)
set_option maxRecDepth 20000 in
theorem gX4_takeContainer_X4_takeBitmap : GoodIn wsX4_takeContainer (wsV RX4 118 RX4 yX4_takeBitmap wsX4_takeBitmap) := goodIn_app (goodIn_of _ (by decide +kernel)) ggX4_takeContainer_X4_takeBitmap
theorem dX4_takeContainer_0 : decode cX4_takeContainer 0 = .ok (.aload_n 0, 1) := by decide +kernel
theorem dX4_takeContainer_1 : decode cX4_takeContainer 1 = .ok (.getfield 46, 3) := by decide +kernel
theorem dX4_takeContainer_4 : decode cX4_takeContainer 4 = .ok (.iconst (-1), 1) := by decide +kernel
theorem dX4_takeContainer_5 : decode cX4_takeContainer 5 = .ok (.if_icmp .eq 40, 3) := by decide +kernel
theorem dX4_takeContainer_8 : decode cX4_takeContainer 8 = .ok (.aload_n 1, 1) := by decide +kernel
theorem dX4_takeContainer_9 : decode cX4_takeContainer 9 = .ok (.aload_n 0, 1) := by decide +kernel
theorem dX4_takeContainer_10 : decode cX4_takeContainer 10 = .ok (.getfield 46, 3) := by decide +kernel
theorem dX4_takeContainer_13 : decode cX4_takeContainer 13 = .ok (.iconst 4, 1) := by decide +kernel
theorem dX4_takeContainer_14 : decode cX4_takeContainer 14 = .ok (.iload_n 3, 1) := by decide +kernel
theorem dX4_takeContainer_15 : decode cX4_takeContainer 15 = .ok (.imul, 1) := by decide +kernel
theorem dX4_takeContainer_16 : decode cX4_takeContainer 16 = .ok (.iadd, 1) := by decide +kernel
theorem dX4_takeContainer_17 : decode cX4_takeContainer 17 = .ok (.iconst 4, 1) := by decide +kernel
theorem dX4_takeContainer_18 : decode cX4_takeContainer 18 = .ok (.invokevirtual 71, 3) := by decide +kernel
theorem dX4_takeContainer_21 : decode cX4_takeContainer 21 = .ok (.aload_n 0, 1) := by decide +kernel
theorem dX4_takeContainer_22 : decode cX4_takeContainer 22 = .ok (.getfield 25, 3) := by decide +kernel
theorem dX4_takeContainer_25 : decode cX4_takeContainer 25 = .ok (.i2l, 1) := by decide +kernel
theorem dX4_takeContainer_26 : decode cX4_takeContainer 26 = .ok (.lcmp, 1) := by decide +kernel
theorem dX4_takeContainer_27 : decode cX4_takeContainer 27 = .ok (.ifCond .eq 18, 3) := by decide +kernel
theorem dX4_takeContainer_30 : decode cX4_takeContainer 30 = .ok (.aload_n 0, 1) := by decide +kernel
theorem dX4_takeContainer_31 : decode cX4_takeContainer 31 = .ok (.bipush 6, 2) := by decide +kernel
theorem dX4_takeContainer_33 : decode cX4_takeContainer 33 = .ok (.aload_n 0, 1) := by decide +kernel
theorem dX4_takeContainer_34 : decode cX4_takeContainer 34 = .ok (.getfield 46, 3) := by decide +kernel
theorem dX4_takeContainer_37 : decode cX4_takeContainer 37 = .ok (.iconst 4, 1) := by decide +kernel
theorem dX4_takeContainer_38 : decode cX4_takeContainer 38 = .ok (.iload_n 3, 1) := by decide +kernel
theorem dX4_takeContainer_39 : decode cX4_takeContainer 39 = .ok (.imul, 1) := by decide +kernel
theorem dX4_takeContainer_40 : decode cX4_takeContainer 40 = .ok (.iadd, 1) := by decide +kernel
theorem dX4_takeContainer_41 : decode cX4_takeContainer 41 = .ok (.invokevirtual 67, 3) := by decide +kernel
theorem dX4_takeContainer_44 : decode cX4_takeContainer 44 = .ok (.ireturn, 1) := by decide +kernel
theorem dX4_takeContainer_45 : decode cX4_takeContainer 45 = .ok (.aload_n 2, 1) := by decide +kernel
theorem dX4_takeContainer_46 : decode cX4_takeContainer 46 = .ok (.getfield 98, 3) := by decide +kernel
theorem dX4_takeContainer_49 : decode cX4_takeContainer 49 = .ok (.iload_n 3, 1) := by decide +kernel
theorem dX4_takeContainer_50 : decode cX4_takeContainer 50 = .ok (.aaload, 1) := by decide +kernel
theorem dX4_takeContainer_51 : decode cX4_takeContainer 51 = .ok (.astore 4, 2) := by decide +kernel
theorem dX4_takeContainer_53 : decode cX4_takeContainer 53 = .ok (.aload 4, 2) := by decide +kernel
theorem dX4_takeContainer_55 : decode cX4_takeContainer 55 = .ok (.aload_n 0, 1) := by decide +kernel
theorem dX4_takeContainer_56 : decode cX4_takeContainer 56 = .ok (.getfield 9, 3) := by decide +kernel
theorem dX4_takeContainer_59 : decode cX4_takeContainer 59 = .ok (.iload_n 3, 1) := by decide +kernel
theorem dX4_takeContainer_60 : decode cX4_takeContainer 60 = .ok (.iaload, 1) := by decide +kernel
theorem dX4_takeContainer_61 : decode cX4_takeContainer 61 = .ok (.invokevirtual 102, 3) := by decide +kernel
theorem dX4_takeContainer_64 : decode cX4_takeContainer 64 = .ok (.aload_n 2, 1) := by decide +kernel
theorem dX4_takeContainer_65 : decode cX4_takeContainer 65 = .ok (.iload_n 3, 1) := by decide +kernel
theorem dX4_takeContainer_66 : decode cX4_takeContainer 66 = .ok (.iconst 1, 1) := by decide +kernel
theorem dX4_takeContainer_67 : decode cX4_takeContainer 67 = .ok (.iadd, 1) := by decide +kernel
theorem dX4_takeContainer_68 : decode cX4_takeContainer 68 = .ok (.putfield 49, 3) := by decide +kernel
theorem dX4_takeContainer_71 : decode cX4_takeContainer 71 = .ok (.aload_n 0, 1) := by decide +kernel
theorem dX4_takeContainer_72 : decode cX4_takeContainer 72 = .ok (.getfield 43, 3) := by decide +kernel
theorem dX4_takeContainer_75 : decode cX4_takeContainer 75 = .ok (.iload_n 3, 1) := by decide +kernel
theorem dX4_takeContainer_76 : decode cX4_takeContainer 76 = .ok (.iushr, 1) := by decide +kernel
theorem dX4_takeContainer_77 : decode cX4_takeContainer 77 = .ok (.iconst 1, 1) := by decide +kernel
theorem dX4_takeContainer_78 : decode cX4_takeContainer 78 = .ok (.iand, 1) := by decide +kernel
theorem dX4_takeContainer_79 : decode cX4_takeContainer 79 = .ok (.ifCond .eq 23, 3) := by decide +kernel
theorem dX4_takeContainer_82 : decode cX4_takeContainer 82 = .ok (.aload 4, 2) := by decide +kernel
theorem dX4_takeContainer_84 : decode cX4_takeContainer 84 = .ok (.iconst 2, 1) := by decide +kernel
theorem dX4_takeContainer_85 : decode cX4_takeContainer 85 = .ok (.putfield 108, 3) := by decide +kernel
theorem dX4_takeContainer_88 : decode cX4_takeContainer 88 = .ok (.aload_n 0, 1) := by decide +kernel
theorem dX4_takeContainer_89 : decode cX4_takeContainer 89 = .ok (.aload_n 1, 1) := by decide +kernel
theorem dX4_takeContainer_90 : decode cX4_takeContainer 90 = .ok (.aload 4, 2) := by decide +kernel
theorem dX4_takeContainer_92 : decode cX4_takeContainer 92 = .ok (.aload_n 0, 1) := by decide +kernel
theorem dX4_takeContainer_93 : decode cX4_takeContainer 93 = .ok (.getfield 15, 3) := by decide +kernel
theorem dX4_takeContainer_96 : decode cX4_takeContainer 96 = .ok (.iload_n 3, 1) := by decide +kernel
theorem dX4_takeContainer_97 : decode cX4_takeContainer 97 = .ok (.iaload, 1) := by decide +kernel
theorem dX4_takeContainer_98 : decode cX4_takeContainer 98 = .ok (.invokevirtual 111, 3) := by decide +kernel
theorem dX4_takeContainer_101 : decode cX4_takeContainer 101 = .ok (.ireturn, 1) := by decide +kernel
theorem dX4_takeContainer_102 : decode cX4_takeContainer 102 = .ok (.aload_n 0, 1) := by decide +kernel
theorem dX4_takeContainer_103 : decode cX4_takeContainer 103 = .ok (.getfield 15, 3) := by decide +kernel
theorem dX4_takeContainer_106 : decode cX4_takeContainer 106 = .ok (.iload_n 3, 1) := by decide +kernel
theorem dX4_takeContainer_107 : decode cX4_takeContainer 107 = .ok (.iaload, 1) := by decide +kernel
theorem dX4_takeContainer_108 : decode cX4_takeContainer 108 = .ok (.sipush 4096, 3) := by decide +kernel
theorem dX4_takeContainer_111 : decode cX4_takeContainer 111 = .ok (.if_icmp .gt 23, 3) := by decide +kernel
theorem dX4_takeContainer_114 : decode cX4_takeContainer 114 = .ok (.aload 4, 2) := by decide +kernel
theorem dX4_takeContainer_116 : decode cX4_takeContainer 116 = .ok (.iconst 0, 1) := by decide +kernel
theorem dX4_takeContainer_117 : decode cX4_takeContainer 117 = .ok (.putfield 108, 3) := by decide +kernel
theorem dX4_takeContainer_120 : decode cX4_takeContainer 120 = .ok (.aload_n 0, 1) := by decide +kernel
theorem dX4_takeContainer_121 : decode cX4_takeContainer 121 = .ok (.aload_n 1, 1) := by decide +kernel
theorem dX4_takeContainer_122 : decode cX4_takeContainer 122 = .ok (.aload 4, 2) := by decide +kernel
theorem dX4_takeContainer_124 : decode cX4_takeContainer 124 = .ok (.aload_n 0, 1) := by decide +kernel
theorem dX4_takeContainer_125 : decode cX4_takeContainer 125 = .ok (.getfield 15, 3) := by decide +kernel
theorem dX4_takeContainer_128 : decode cX4_takeContainer 128 = .ok (.iload_n 3, 1) := by decide +kernel
theorem dX4_takeContainer_129 : decode cX4_takeContainer 129 = .ok (.iaload, 1) := by decide +kernel
theorem dX4_takeContainer_130 : decode cX4_takeContainer 130 = .ok (.invokevirtual 115, 3) := by decide +kernel
theorem dX4_takeContainer_133 : decode cX4_takeContainer 133 = .ok (.ireturn, 1) := by decide +kernel
theorem dX4_takeContainer_134 : decode cX4_takeContainer 134 = .ok (.aload 4, 2) := by decide +kernel
theorem dX4_takeContainer_136 : decode cX4_takeContainer 136 = .ok (.iconst 1, 1) := by decide +kernel
theorem dX4_takeContainer_137 : decode cX4_takeContainer 137 = .ok (.putfield 108, 3) := by decide +kernel
theorem dX4_takeContainer_140 : decode cX4_takeContainer 140 = .ok (.aload_n 0, 1) := by decide +kernel
theorem dX4_takeContainer_141 : decode cX4_takeContainer 141 = .ok (.aload_n 1, 1) := by decide +kernel
theorem dX4_takeContainer_142 : decode cX4_takeContainer 142 = .ok (.aload 4, 2) := by decide +kernel
theorem dX4_takeContainer_144 : decode cX4_takeContainer 144 = .ok (.aload_n 0, 1) := by decide +kernel
theorem dX4_takeContainer_145 : decode cX4_takeContainer 145 = .ok (.getfield 15, 3) := by decide +kernel
theorem dX4_takeContainer_148 : decode cX4_takeContainer 148 = .ok (.iload_n 3, 1) := by decide +kernel
theorem dX4_takeContainer_149 : decode cX4_takeContainer 149 = .ok (.iaload, 1) := by decide +kernel
theorem dX4_takeContainer_150 : decode cX4_takeContainer 150 = .ok (.invokevirtual 118, 3) := by decide +kernel
theorem dX4_takeContainer_153 : decode cX4_takeContainer 153 = .ok (.ireturn, 1) := by decide +kernel
set_option maxRecDepth 20000 in
theorem ggX4_takeArray_X4_isThere : GoodIn wsX4_takeArray wsX4_isThere := goodIn_r _ [6, 7, 1, 8, 9, 10, 5, 11, 12, 13, 46, 47, 48, 49, 50, 51, 52, 53, 54, 55] rfl (by decide +kernel)
set_option maxRecDepth 20000 in
theorem gX4_takeArray_X4_isThere : GoodIn wsX4_takeArray (wsV RX4 75 RX4 yX4_isThere wsX4_isThere) := goodIn_app (goodIn_of _ (by decide +kernel)) ggX4_takeArray_X4_isThere
set_option maxRecDepth 20000 in
theorem ggX4_takeArray_X4_take : GoodIn wsX4_takeArray wsX4_take := goodIn_r _ [17, 1, 18, 19, 20, 21, 22, 23, 24, 25, 26, 27, 46, 47, 48, 49, 50, 51, 52, 53, 54, 55, 56, 57] rfl (by decide +kernel)
set_option maxRecDepth 20000 in
theorem gX4_takeArray_X4_take : GoodIn wsX4_takeArray (wsV RX4 79 RX4 yX4_take wsX4_take) := goodIn_app (goodIn_of _ (by decide +kernel)) ggX4_takeArray_X4_take
set_option maxRecDepth 20000 in
theorem ggX4_takeArray_X4_tellFault : GoodIn wsX4_takeArray wsX4_tellFault := goodIn_r _ [11, 12, 13, 46, 47, 48, 49, 50, 51, 52, 53, 54, 55] rfl (by decide +kernel)
set_option maxRecDepth 20000 in
theorem gX4_takeArray_X4_tellFault : GoodIn wsX4_takeArray (wsV RX4 67 RX4 yX4_tellFault wsX4_tellFault) := goodIn_app (goodIn_of _ (by decide +kernel)) ggX4_takeArray_X4_tellFault
set_option maxRecDepth 20000 in
theorem ggX4_takeArray_X1_changeLows : GoodIn wsX4_takeArray wsX1_changeLows := goodIn_r _ [32, 33, 34, 35, 36, 37, 31, 38, 39, 40, 41, 42, 43, 44, 45, 58, 59, 60, 61] rfl (by decide +kernel)
set_option maxRecDepth 20000 in
theorem gX4_takeArray_X1_changeLows : GoodIn wsX4_takeArray (wsV RX4 121 RX1 yX1_changeLows wsX1_changeLows) := goodIn_app (goodIn_of _ (by decide +kernel)) ggX4_takeArray_X1_changeLows
theorem dX4_takeArray_0 : decode cX4_takeArray 0 = .ok (.iconst (-1), 1) := by decide +kernel
theorem dX4_takeArray_1 : decode cX4_takeArray 1 = .ok (.istore 4, 2) := by decide +kernel
theorem dX4_takeArray_3 : decode cX4_takeArray 3 = .ok (.iconst 0, 1) := by decide +kernel
theorem dX4_takeArray_4 : decode cX4_takeArray 4 = .ok (.istore 5, 2) := by decide +kernel
theorem dX4_takeArray_6 : decode cX4_takeArray 6 = .ok (.iload 5, 2) := by decide +kernel
theorem dX4_takeArray_8 : decode cX4_takeArray 8 = .ok (.iload_n 3, 1) := by decide +kernel
theorem dX4_takeArray_9 : decode cX4_takeArray 9 = .ok (.if_icmp .ge 62, 3) := by decide +kernel
theorem dX4_takeArray_12 : decode cX4_takeArray 12 = .ok (.aload_n 0, 1) := by decide +kernel
theorem dX4_takeArray_13 : decode cX4_takeArray 13 = .ok (.iconst 2, 1) := by decide +kernel
theorem dX4_takeArray_14 : decode cX4_takeArray 14 = .ok (.invokevirtual 75, 3) := by decide +kernel
theorem dX4_takeArray_17 : decode cX4_takeArray 17 = .ok (.ifCond .ne 5, 3) := by decide +kernel
theorem dX4_takeArray_20 : decode cX4_takeArray 20 = .ok (.iconst 0, 1) := by decide +kernel
theorem dX4_takeArray_21 : decode cX4_takeArray 21 = .ok (.ireturn, 1) := by decide +kernel
theorem dX4_takeArray_22 : decode cX4_takeArray 22 = .ok (.aload_n 0, 1) := by decide +kernel
theorem dX4_takeArray_23 : decode cX4_takeArray 23 = .ok (.aload_n 1, 1) := by decide +kernel
theorem dX4_takeArray_24 : decode cX4_takeArray 24 = .ok (.iconst 2, 1) := by decide +kernel
theorem dX4_takeArray_25 : decode cX4_takeArray 25 = .ok (.invokevirtual 79, 3) := by decide +kernel
theorem dX4_takeArray_28 : decode cX4_takeArray 28 = .ok (.l2i, 1) := by decide +kernel
theorem dX4_takeArray_29 : decode cX4_takeArray 29 = .ok (.istore 6, 2) := by decide +kernel
theorem dX4_takeArray_31 : decode cX4_takeArray 31 = .ok (.iload 6, 2) := by decide +kernel
theorem dX4_takeArray_33 : decode cX4_takeArray 33 = .ok (.iload 4, 2) := by decide +kernel
theorem dX4_takeArray_35 : decode cX4_takeArray 35 = .ok (.if_icmp .gt 16, 3) := by decide +kernel
theorem dX4_takeArray_38 : decode cX4_takeArray 38 = .ok (.aload_n 0, 1) := by decide +kernel
theorem dX4_takeArray_39 : decode cX4_takeArray 39 = .ok (.bipush 7, 2) := by decide +kernel
theorem dX4_takeArray_41 : decode cX4_takeArray 41 = .ok (.aload_n 0, 1) := by decide +kernel
theorem dX4_takeArray_42 : decode cX4_takeArray 42 = .ok (.getfield 25, 3) := by decide +kernel
theorem dX4_takeArray_45 : decode cX4_takeArray 45 = .ok (.iconst 2, 1) := by decide +kernel
theorem dX4_takeArray_46 : decode cX4_takeArray 46 = .ok (.isub, 1) := by decide +kernel
theorem dX4_takeArray_47 : decode cX4_takeArray 47 = .ok (.invokevirtual 67, 3) := by decide +kernel
theorem dX4_takeArray_50 : decode cX4_takeArray 50 = .ok (.ireturn, 1) := by decide +kernel
theorem dX4_takeArray_51 : decode cX4_takeArray 51 = .ok (.aload_n 2, 1) := by decide +kernel
theorem dX4_takeArray_52 : decode cX4_takeArray 52 = .ok (.iload 6, 2) := by decide +kernel
theorem dX4_takeArray_54 : decode cX4_takeArray 54 = .ok (.iload 6, 2) := by decide +kernel
theorem dX4_takeArray_56 : decode cX4_takeArray 56 = .ok (.iconst 0, 1) := by decide +kernel
theorem dX4_takeArray_57 : decode cX4_takeArray 57 = .ok (.invokevirtual 121, 3) := by decide +kernel
theorem dX4_takeArray_60 : decode cX4_takeArray 60 = .ok (.pop, 1) := by decide +kernel
theorem dX4_takeArray_61 : decode cX4_takeArray 61 = .ok (.iload 6, 2) := by decide +kernel
theorem dX4_takeArray_63 : decode cX4_takeArray 63 = .ok (.istore 4, 2) := by decide +kernel
theorem dX4_takeArray_65 : decode cX4_takeArray 65 = .ok (.iinc 5 1, 3) := by decide +kernel
theorem dX4_takeArray_68 : decode cX4_takeArray 68 = .ok (.goto (-62), 3) := by decide +kernel
theorem dX4_takeArray_71 : decode cX4_takeArray 71 = .ok (.iconst 1, 1) := by decide +kernel
theorem dX4_takeArray_72 : decode cX4_takeArray 72 = .ok (.ireturn, 1) := by decide +kernel
set_option maxRecDepth 20000 in
theorem ggX4_takeBitmap_X4_isThere : GoodIn wsX4_takeBitmap wsX4_isThere := goodIn_r _ [8, 9, 3, 10, 11, 12, 7, 13, 14, 15, 41, 42, 43, 44, 45, 46, 47, 48, 49, 50] rfl (by decide +kernel)
set_option maxRecDepth 20000 in
theorem gX4_takeBitmap_X4_isThere : GoodIn wsX4_takeBitmap (wsV RX4 75 RX4 yX4_isThere wsX4_isThere) := goodIn_app (goodIn_of _ (by decide +kernel)) ggX4_takeBitmap_X4_isThere
set_option maxRecDepth 20000 in
theorem ggX4_takeBitmap_X4_take : GoodIn wsX4_takeBitmap wsX4_take := goodIn_r _ [19, 3, 20, 21, 22, 23, 24, 25, 26, 27, 28, 29, 41, 42, 43, 44, 45, 46, 47, 48, 49, 50, 51, 52] rfl (by decide +kernel)
set_option maxRecDepth 20000 in
theorem gX4_takeBitmap_X4_take : GoodIn wsX4_takeBitmap (wsV RX4 79 RX4 yX4_take wsX4_take) := goodIn_app (goodIn_of _ (by decide +kernel)) ggX4_takeBitmap_X4_take
set_option maxRecDepth 20000 in
theorem ggX4_takeBitmap_J13_bitCount_95d88 : GoodIn wsX4_takeBitmap wsJ13_bitCount_95d88 := goodIn_r _ [33, 34, 35, 36] rfl (by decide +kernel)
set_option maxRecDepth 20000 in
theorem gX4_takeBitmap_J13_bitCount_95d88 : GoodIn wsX4_takeBitmap (va_wsS RX4 132 yJ13_bitCount_95d88 wsJ13_bitCount_95d88) := goodIn_app (goodIn_of _ (by decide +kernel)) ggX4_takeBitmap_J13_bitCount_95d88
set_option maxRecDepth 20000 in
theorem ggX4_takeBitmap_X4_tellFault : GoodIn wsX4_takeBitmap wsX4_tellFault := goodIn_r _ [13, 14, 15, 41, 42, 43, 44, 45, 46, 47, 48, 49, 50] rfl (by decide +kernel)
set_option maxRecDepth 20000 in
theorem gX4_takeBitmap_X4_tellFault : GoodIn wsX4_takeBitmap (wsV RX4 67 RX4 yX4_tellFault wsX4_tellFault) := goodIn_app (goodIn_of _ (by decide +kernel)) ggX4_takeBitmap_X4_tellFault
theorem dX4_takeBitmap_0 : decode cX4_takeBitmap 0 = .ok (.aload_n 0, 1) := by decide +kernel
theorem dX4_takeBitmap_1 : decode cX4_takeBitmap 1 = .ok (.sipush 8192, 3) := by decide +kernel
theorem dX4_takeBitmap_4 : decode cX4_takeBitmap 4 = .ok (.invokevirtual 75, 3) := by decide +kernel
theorem dX4_takeBitmap_7 : decode cX4_takeBitmap 7 = .ok (.ifCond .ne 5, 3) := by decide +kernel
theorem dX4_takeBitmap_10 : decode cX4_takeBitmap 10 = .ok (.iconst 0, 1) := by decide +kernel
theorem dX4_takeBitmap_11 : decode cX4_takeBitmap 11 = .ok (.ireturn, 1) := by decide +kernel
theorem dX4_takeBitmap_12 : decode cX4_takeBitmap 12 = .ok (.iconst 0, 1) := by decide +kernel
theorem dX4_takeBitmap_13 : decode cX4_takeBitmap 13 = .ok (.istore 4, 2) := by decide +kernel
theorem dX4_takeBitmap_15 : decode cX4_takeBitmap 15 = .ok (.iload 4, 2) := by decide +kernel
theorem dX4_takeBitmap_17 : decode cX4_takeBitmap 17 = .ok (.sipush 1024, 3) := by decide +kernel
theorem dX4_takeBitmap_20 : decode cX4_takeBitmap 20 = .ok (.if_icmp .ge 42, 3) := by decide +kernel
theorem dX4_takeBitmap_23 : decode cX4_takeBitmap 23 = .ok (.aload_n 2, 1) := by decide +kernel
theorem dX4_takeBitmap_24 : decode cX4_takeBitmap 24 = .ok (.getfield 125, 3) := by decide +kernel
theorem dX4_takeBitmap_27 : decode cX4_takeBitmap 27 = .ok (.iload 4, 2) := by decide +kernel
theorem dX4_takeBitmap_29 : decode cX4_takeBitmap 29 = .ok (.aload_n 0, 1) := by decide +kernel
theorem dX4_takeBitmap_30 : decode cX4_takeBitmap 30 = .ok (.aload_n 1, 1) := by decide +kernel
theorem dX4_takeBitmap_31 : decode cX4_takeBitmap 31 = .ok (.bipush 8, 2) := by decide +kernel
theorem dX4_takeBitmap_33 : decode cX4_takeBitmap 33 = .ok (.invokevirtual 79, 3) := by decide +kernel
theorem dX4_takeBitmap_36 : decode cX4_takeBitmap 36 = .ok (.lastore, 1) := by decide +kernel
theorem dX4_takeBitmap_37 : decode cX4_takeBitmap 37 = .ok (.aload_n 2, 1) := by decide +kernel
theorem dX4_takeBitmap_38 : decode cX4_takeBitmap 38 = .ok (.dup, 1) := by decide +kernel
theorem dX4_takeBitmap_39 : decode cX4_takeBitmap 39 = .ok (.getfield 129, 3) := by decide +kernel
theorem dX4_takeBitmap_42 : decode cX4_takeBitmap 42 = .ok (.aload_n 2, 1) := by decide +kernel
theorem dX4_takeBitmap_43 : decode cX4_takeBitmap 43 = .ok (.getfield 125, 3) := by decide +kernel
theorem dX4_takeBitmap_46 : decode cX4_takeBitmap 46 = .ok (.iload 4, 2) := by decide +kernel
theorem dX4_takeBitmap_48 : decode cX4_takeBitmap 48 = .ok (.laload, 1) := by decide +kernel
theorem dX4_takeBitmap_49 : decode cX4_takeBitmap 49 = .ok (.invokestatic 132, 3) := by decide +kernel
theorem dX4_takeBitmap_52 : decode cX4_takeBitmap 52 = .ok (.iadd, 1) := by decide +kernel
theorem dX4_takeBitmap_53 : decode cX4_takeBitmap 53 = .ok (.putfield 129, 3) := by decide +kernel
theorem dX4_takeBitmap_56 : decode cX4_takeBitmap 56 = .ok (.iinc 4 1, 3) := by decide +kernel
theorem dX4_takeBitmap_59 : decode cX4_takeBitmap 59 = .ok (.goto (-44), 3) := by decide +kernel
theorem dX4_takeBitmap_62 : decode cX4_takeBitmap 62 = .ok (.aload_n 2, 1) := by decide +kernel
theorem dX4_takeBitmap_63 : decode cX4_takeBitmap 63 = .ok (.getfield 129, 3) := by decide +kernel
theorem dX4_takeBitmap_66 : decode cX4_takeBitmap 66 = .ok (.iload_n 3, 1) := by decide +kernel
theorem dX4_takeBitmap_67 : decode cX4_takeBitmap 67 = .ok (.if_icmp .eq 16, 3) := by decide +kernel
theorem dX4_takeBitmap_70 : decode cX4_takeBitmap 70 = .ok (.aload_n 0, 1) := by decide +kernel
theorem dX4_takeBitmap_71 : decode cX4_takeBitmap 71 = .ok (.bipush 8, 2) := by decide +kernel
theorem dX4_takeBitmap_73 : decode cX4_takeBitmap 73 = .ok (.aload_n 0, 1) := by decide +kernel
theorem dX4_takeBitmap_74 : decode cX4_takeBitmap 74 = .ok (.getfield 25, 3) := by decide +kernel
theorem dX4_takeBitmap_77 : decode cX4_takeBitmap 77 = .ok (.invokevirtual 67, 3) := by decide +kernel
theorem dX4_takeBitmap_80 : decode cX4_takeBitmap 80 = .ok (.ifCond .eq 7, 3) := by decide +kernel
theorem dX4_takeBitmap_83 : decode cX4_takeBitmap 83 = .ok (.iconst 1, 1) := by decide +kernel
theorem dX4_takeBitmap_84 : decode cX4_takeBitmap 84 = .ok (.goto 4, 3) := by decide +kernel
theorem dX4_takeBitmap_87 : decode cX4_takeBitmap 87 = .ok (.iconst 0, 1) := by decide +kernel
theorem dX4_takeBitmap_88 : decode cX4_takeBitmap 88 = .ok (.ireturn, 1) := by decide +kernel
set_option maxRecDepth 20000 in
theorem ggX4_takeRuns_X4_isThere : GoodIn wsX4_takeRuns wsX4_isThere := goodIn_r _ [8, 9, 2, 10, 11, 12, 7, 13, 14, 15, 48, 49, 50, 51, 52, 53, 54, 55, 56, 57] rfl (by decide +kernel)
set_option maxRecDepth 20000 in
theorem gX4_takeRuns_X4_isThere : GoodIn wsX4_takeRuns (wsV RX4 75 RX4 yX4_isThere wsX4_isThere) := goodIn_app (goodIn_of _ (by decide +kernel)) ggX4_takeRuns_X4_isThere
set_option maxRecDepth 20000 in
theorem ggX4_takeRuns_X4_take : GoodIn wsX4_takeRuns wsX4_take := goodIn_r _ [19, 2, 20, 21, 22, 23, 24, 25, 26, 27, 28, 29, 48, 49, 50, 51, 52, 53, 54, 55, 56, 57, 62, 63] rfl (by decide +kernel)
set_option maxRecDepth 20000 in
theorem gX4_takeRuns_X4_take : GoodIn wsX4_takeRuns (wsV RX4 79 RX4 yX4_take wsX4_take) := goodIn_app (goodIn_of _ (by decide +kernel)) ggX4_takeRuns_X4_take
set_option maxRecDepth 20000 in
theorem ggX4_takeRuns_X4_tellFault : GoodIn wsX4_takeRuns wsX4_tellFault := goodIn_r _ [13, 14, 15, 48, 49, 50, 51, 52, 53, 54, 55, 56, 57] rfl (by decide +kernel)
set_option maxRecDepth 20000 in
theorem gX4_takeRuns_X4_tellFault : GoodIn wsX4_takeRuns (wsV RX4 67 RX4 yX4_tellFault wsX4_tellFault) := goodIn_app (goodIn_of _ (by decide +kernel)) ggX4_takeRuns_X4_tellFault
set_option maxRecDepth 20000 in
theorem ggX4_takeRuns_X1_changeLows : GoodIn wsX4_takeRuns wsX1_changeLows := goodIn_r _ [34, 35, 36, 37, 38, 39, 33, 40, 41, 42, 43, 44, 45, 46, 47, 58, 59, 60, 61] rfl (by decide +kernel)
set_option maxRecDepth 20000 in
theorem gX4_takeRuns_X1_changeLows : GoodIn wsX4_takeRuns (wsV RX4 121 RX1 yX1_changeLows wsX1_changeLows) := goodIn_app (goodIn_of _ (by decide +kernel)) ggX4_takeRuns_X1_changeLows
theorem dX4_takeRuns_0 : decode cX4_takeRuns 0 = .ok (.aload_n 0, 1) := by decide +kernel
theorem dX4_takeRuns_1 : decode cX4_takeRuns 1 = .ok (.iconst 2, 1) := by decide +kernel
theorem dX4_takeRuns_2 : decode cX4_takeRuns 2 = .ok (.invokevirtual 75, 3) := by decide +kernel
theorem dX4_takeRuns_5 : decode cX4_takeRuns 5 = .ok (.ifCond .ne 5, 3) := by decide +kernel
theorem dX4_takeRuns_8 : decode cX4_takeRuns 8 = .ok (.iconst 0, 1) := by decide +kernel
theorem dX4_takeRuns_9 : decode cX4_takeRuns 9 = .ok (.ireturn, 1) := by decide +kernel
theorem dX4_takeRuns_10 : decode cX4_takeRuns 10 = .ok (.aload_n 0, 1) := by decide +kernel
theorem dX4_takeRuns_11 : decode cX4_takeRuns 11 = .ok (.aload_n 1, 1) := by decide +kernel
theorem dX4_takeRuns_12 : decode cX4_takeRuns 12 = .ok (.iconst 2, 1) := by decide +kernel
theorem dX4_takeRuns_13 : decode cX4_takeRuns 13 = .ok (.invokevirtual 79, 3) := by decide +kernel
theorem dX4_takeRuns_16 : decode cX4_takeRuns 16 = .ok (.l2i, 1) := by decide +kernel
theorem dX4_takeRuns_17 : decode cX4_takeRuns 17 = .ok (.istore 4, 2) := by decide +kernel
theorem dX4_takeRuns_19 : decode cX4_takeRuns 19 = .ok (.iconst 0, 1) := by decide +kernel
theorem dX4_takeRuns_20 : decode cX4_takeRuns 20 = .ok (.istore 5, 2) := by decide +kernel
theorem dX4_takeRuns_22 : decode cX4_takeRuns 22 = .ok (.iconst 0, 1) := by decide +kernel
theorem dX4_takeRuns_23 : decode cX4_takeRuns 23 = .ok (.istore 6, 2) := by decide +kernel
theorem dX4_takeRuns_25 : decode cX4_takeRuns 25 = .ok (.iload 6, 2) := by decide +kernel
theorem dX4_takeRuns_27 : decode cX4_takeRuns 27 = .ok (.iload 4, 2) := by decide +kernel
theorem dX4_takeRuns_29 : decode cX4_takeRuns 29 = .ok (.if_icmp .ge 83, 3) := by decide +kernel
theorem dX4_takeRuns_32 : decode cX4_takeRuns 32 = .ok (.aload_n 0, 1) := by decide +kernel
theorem dX4_takeRuns_33 : decode cX4_takeRuns 33 = .ok (.iconst 4, 1) := by decide +kernel
theorem dX4_takeRuns_34 : decode cX4_takeRuns 34 = .ok (.invokevirtual 75, 3) := by decide +kernel
theorem dX4_takeRuns_37 : decode cX4_takeRuns 37 = .ok (.ifCond .ne 5, 3) := by decide +kernel
theorem dX4_takeRuns_40 : decode cX4_takeRuns 40 = .ok (.iconst 0, 1) := by decide +kernel
theorem dX4_takeRuns_41 : decode cX4_takeRuns 41 = .ok (.ireturn, 1) := by decide +kernel
theorem dX4_takeRuns_42 : decode cX4_takeRuns 42 = .ok (.aload_n 0, 1) := by decide +kernel
theorem dX4_takeRuns_43 : decode cX4_takeRuns 43 = .ok (.aload_n 1, 1) := by decide +kernel
theorem dX4_takeRuns_44 : decode cX4_takeRuns 44 = .ok (.iconst 2, 1) := by decide +kernel
theorem dX4_takeRuns_45 : decode cX4_takeRuns 45 = .ok (.invokevirtual 79, 3) := by decide +kernel
theorem dX4_takeRuns_48 : decode cX4_takeRuns 48 = .ok (.l2i, 1) := by decide +kernel
theorem dX4_takeRuns_49 : decode cX4_takeRuns 49 = .ok (.istore 7, 2) := by decide +kernel
theorem dX4_takeRuns_51 : decode cX4_takeRuns 51 = .ok (.iload 7, 2) := by decide +kernel
theorem dX4_takeRuns_53 : decode cX4_takeRuns 53 = .ok (.aload_n 0, 1) := by decide +kernel
theorem dX4_takeRuns_54 : decode cX4_takeRuns 54 = .ok (.aload_n 1, 1) := by decide +kernel
theorem dX4_takeRuns_55 : decode cX4_takeRuns 55 = .ok (.iconst 2, 1) := by decide +kernel
theorem dX4_takeRuns_56 : decode cX4_takeRuns 56 = .ok (.invokevirtual 79, 3) := by decide +kernel
theorem dX4_takeRuns_59 : decode cX4_takeRuns 59 = .ok (.l2i, 1) := by decide +kernel
theorem dX4_takeRuns_60 : decode cX4_takeRuns 60 = .ok (.iadd, 1) := by decide +kernel
theorem dX4_takeRuns_61 : decode cX4_takeRuns 61 = .ok (.istore 8, 2) := by decide +kernel
theorem dX4_takeRuns_63 : decode cX4_takeRuns 63 = .ok (.iload 7, 2) := by decide +kernel
theorem dX4_takeRuns_65 : decode cX4_takeRuns 65 = .ok (.iload 5, 2) := by decide +kernel
theorem dX4_takeRuns_67 : decode cX4_takeRuns 67 = .ok (.if_icmp .lt 10, 3) := by decide +kernel
theorem dX4_takeRuns_70 : decode cX4_takeRuns 70 = .ok (.iload 8, 2) := by decide +kernel
theorem dX4_takeRuns_72 : decode cX4_takeRuns 72 = .ok (.ldc 138, 2) := by decide +kernel
theorem dX4_takeRuns_74 : decode cX4_takeRuns 74 = .ok (.if_icmp .le 16, 3) := by decide +kernel
theorem dX4_takeRuns_77 : decode cX4_takeRuns 77 = .ok (.aload_n 0, 1) := by decide +kernel
theorem dX4_takeRuns_78 : decode cX4_takeRuns 78 = .ok (.bipush 7, 2) := by decide +kernel
theorem dX4_takeRuns_80 : decode cX4_takeRuns 80 = .ok (.aload_n 0, 1) := by decide +kernel
theorem dX4_takeRuns_81 : decode cX4_takeRuns 81 = .ok (.getfield 25, 3) := by decide +kernel
theorem dX4_takeRuns_84 : decode cX4_takeRuns 84 = .ok (.iconst 4, 1) := by decide +kernel
theorem dX4_takeRuns_85 : decode cX4_takeRuns 85 = .ok (.isub, 1) := by decide +kernel
theorem dX4_takeRuns_86 : decode cX4_takeRuns 86 = .ok (.invokevirtual 67, 3) := by decide +kernel
theorem dX4_takeRuns_89 : decode cX4_takeRuns 89 = .ok (.ireturn, 1) := by decide +kernel
theorem dX4_takeRuns_90 : decode cX4_takeRuns 90 = .ok (.aload_n 2, 1) := by decide +kernel
theorem dX4_takeRuns_91 : decode cX4_takeRuns 91 = .ok (.iload 7, 2) := by decide +kernel
theorem dX4_takeRuns_93 : decode cX4_takeRuns 93 = .ok (.iload 8, 2) := by decide +kernel
theorem dX4_takeRuns_95 : decode cX4_takeRuns 95 = .ok (.iconst 0, 1) := by decide +kernel
theorem dX4_takeRuns_96 : decode cX4_takeRuns 96 = .ok (.invokevirtual 121, 3) := by decide +kernel
theorem dX4_takeRuns_99 : decode cX4_takeRuns 99 = .ok (.pop, 1) := by decide +kernel
theorem dX4_takeRuns_100 : decode cX4_takeRuns 100 = .ok (.iload 8, 2) := by decide +kernel
theorem dX4_takeRuns_102 : decode cX4_takeRuns 102 = .ok (.iconst 2, 1) := by decide +kernel
theorem dX4_takeRuns_103 : decode cX4_takeRuns 103 = .ok (.iadd, 1) := by decide +kernel
theorem dX4_takeRuns_104 : decode cX4_takeRuns 104 = .ok (.istore 5, 2) := by decide +kernel
theorem dX4_takeRuns_106 : decode cX4_takeRuns 106 = .ok (.iinc 6 1, 3) := by decide +kernel
theorem dX4_takeRuns_109 : decode cX4_takeRuns 109 = .ok (.goto (-84), 3) := by decide +kernel
theorem dX4_takeRuns_112 : decode cX4_takeRuns 112 = .ok (.aload_n 2, 1) := by decide +kernel
theorem dX4_takeRuns_113 : decode cX4_takeRuns 113 = .ok (.getfield 129, 3) := by decide +kernel
theorem dX4_takeRuns_116 : decode cX4_takeRuns 116 = .ok (.iload_n 3, 1) := by decide +kernel
theorem dX4_takeRuns_117 : decode cX4_takeRuns 117 = .ok (.if_icmp .eq 16, 3) := by decide +kernel
theorem dX4_takeRuns_120 : decode cX4_takeRuns 120 = .ok (.aload_n 0, 1) := by decide +kernel
theorem dX4_takeRuns_121 : decode cX4_takeRuns 121 = .ok (.bipush 8, 2) := by decide +kernel
theorem dX4_takeRuns_123 : decode cX4_takeRuns 123 = .ok (.aload_n 0, 1) := by decide +kernel
theorem dX4_takeRuns_124 : decode cX4_takeRuns 124 = .ok (.getfield 25, 3) := by decide +kernel
theorem dX4_takeRuns_127 : decode cX4_takeRuns 127 = .ok (.invokevirtual 67, 3) := by decide +kernel
theorem dX4_takeRuns_130 : decode cX4_takeRuns 130 = .ok (.ifCond .eq 7, 3) := by decide +kernel
theorem dX4_takeRuns_133 : decode cX4_takeRuns 133 = .ok (.iconst 1, 1) := by decide +kernel
theorem dX4_takeRuns_134 : decode cX4_takeRuns 134 = .ok (.goto 4, 3) := by decide +kernel
theorem dX4_takeRuns_137 : decode cX4_takeRuns 137 = .ok (.iconst 0, 1) := by decide +kernel
theorem dX4_takeRuns_138 : decode cX4_takeRuns 138 = .ok (.ireturn, 1) := by decide +kernel
set_option maxRecDepth 20000 in
theorem ggX5_bytesOf_X5_headBytesOf : GoodIn wsX5_bytesOf wsX5_headBytesOf := goodIn_r _ [6, 1, 7, 8, 5, 9, 10, 11, 12, 13, 14, 15, 16, 17, 18, 19, 20, 40, 41, 42, 43, 44, 45] rfl (by decide +kernel)
set_option maxRecDepth 20000 in
theorem gX5_bytesOf_X5_headBytesOf : GoodIn wsX5_bytesOf (va_wsS RX5 9 yX5_headBytesOf wsX5_headBytesOf) := goodIn_app (goodIn_of _ (by decide +kernel)) ggX5_bytesOf_X5_headBytesOf
set_option maxRecDepth 20000 in
theorem ggX5_bytesOf_X5_bodyBytesOf : GoodIn wsX5_bytesOf wsX5_bodyBytesOf := goodIn_r _ [23, 24, 25, 26, 27, 28, 29, 30, 31, 32, 33, 34, 35, 36, 37, 38, 39, 42, 43, 44, 45] rfl (by decide +kernel)
set_option maxRecDepth 20000 in
theorem gX5_bytesOf_X5_bodyBytesOf : GoodIn wsX5_bytesOf (va_wsS RX5 25 yX5_bodyBytesOf wsX5_bodyBytesOf) := goodIn_app (goodIn_of _ (by decide +kernel)) ggX5_bytesOf_X5_bodyBytesOf
theorem dX5_bytesOf_0 : decode cX5_bytesOf 0 = .ok (.aload_n 0, 1) := by decide +kernel
theorem dX5_bytesOf_1 : decode cX5_bytesOf 1 = .ok (.invokestatic 9, 3) := by decide +kernel
theorem dX5_bytesOf_4 : decode cX5_bytesOf 4 = .ok (.istore_n 1, 1) := by decide +kernel
theorem dX5_bytesOf_5 : decode cX5_bytesOf 5 = .ok (.iconst 0, 1) := by decide +kernel
theorem dX5_bytesOf_6 : decode cX5_bytesOf 6 = .ok (.istore_n 2, 1) := by decide +kernel
theorem dX5_bytesOf_7 : decode cX5_bytesOf 7 = .ok (.iload_n 2, 1) := by decide +kernel
theorem dX5_bytesOf_8 : decode cX5_bytesOf 8 = .ok (.aload_n 0, 1) := by decide +kernel
theorem dX5_bytesOf_9 : decode cX5_bytesOf 9 = .ok (.getfield 15, 3) := by decide +kernel
theorem dX5_bytesOf_12 : decode cX5_bytesOf 12 = .ok (.if_icmp .ge 21, 3) := by decide +kernel
theorem dX5_bytesOf_15 : decode cX5_bytesOf 15 = .ok (.iload_n 1, 1) := by decide +kernel
theorem dX5_bytesOf_16 : decode cX5_bytesOf 16 = .ok (.aload_n 0, 1) := by decide +kernel
theorem dX5_bytesOf_17 : decode cX5_bytesOf 17 = .ok (.getfield 21, 3) := by decide +kernel
theorem dX5_bytesOf_20 : decode cX5_bytesOf 20 = .ok (.iload_n 2, 1) := by decide +kernel
theorem dX5_bytesOf_21 : decode cX5_bytesOf 21 = .ok (.aaload, 1) := by decide +kernel
theorem dX5_bytesOf_22 : decode cX5_bytesOf 22 = .ok (.invokestatic 25, 3) := by decide +kernel
theorem dX5_bytesOf_25 : decode cX5_bytesOf 25 = .ok (.iadd, 1) := by decide +kernel
theorem dX5_bytesOf_26 : decode cX5_bytesOf 26 = .ok (.istore_n 1, 1) := by decide +kernel
theorem dX5_bytesOf_27 : decode cX5_bytesOf 27 = .ok (.iinc 2 1, 3) := by decide +kernel
theorem dX5_bytesOf_30 : decode cX5_bytesOf 30 = .ok (.goto (-23), 3) := by decide +kernel
theorem dX5_bytesOf_33 : decode cX5_bytesOf 33 = .ok (.iload_n 1, 1) := by decide +kernel
theorem dX5_bytesOf_34 : decode cX5_bytesOf 34 = .ok (.ireturn, 1) := by decide +kernel
set_option maxRecDepth 20000 in
theorem ggX5_putSet_X5_putMark : GoodIn wsX5_putSet wsX5_putMark := goodIn_r _ [8, 9, 1, 2, 10, 11, 12, 13, 7, 14, 15, 16, 17, 18, 19, 20, 21, 22, 23, 24, 25, 26, 27, 28, 29, 30, 31, 32, 33, 34, 35, 36, 37, 38, 39, 40, 41, 42, 43, 44, 45, 46, 47, 48, 49, 112, 113, 114, 115, 116, 117, 118, 119] rfl (by decide +kernel)
set_option maxRecDepth 20000 in
theorem gX5_putSet_X5_putMark : GoodIn wsX5_putSet (va_wsS RX5 29 yX5_putMark wsX5_putMark) := goodIn_app (goodIn_of _ (by decide +kernel)) ggX5_putSet_X5_putMark
set_option maxRecDepth 20000 in
theorem ggX5_putSet_X0_put : GoodIn wsX5_putSet wsX0_put := goodIn_r _ [27, 28, 29, 30, 31, 32, 33, 34, 35, 36, 37, 38, 39, 40, 41, 42, 43, 44, 45, 46, 47, 48, 49, 118, 119] rfl (by decide +kernel)
set_option maxRecDepth 20000 in
theorem gX5_putSet_X0_put : GoodIn wsX5_putSet (wsV RX5 38 RX0 yX0_put wsX0_put) := goodIn_app (goodIn_of _ (by decide +kernel)) ggX5_putSet_X0_put
set_option maxRecDepth 20000 in
theorem ggX5_putSet_X5_hasPlaces : GoodIn wsX5_putSet wsX5_hasPlaces := goodIn_r _ [52, 1, 12, 13, 7, 14, 15, 16, 17, 18, 19, 20, 21, 22, 112, 113, 114, 115, 116, 117] rfl (by decide +kernel)
set_option maxRecDepth 20000 in
theorem gX5_putSet_X5_hasPlaces : GoodIn wsX5_putSet (va_wsS RX5 47 yX5_hasPlaces wsX5_hasPlaces) := goodIn_app (goodIn_of _ (by decide +kernel)) ggX5_putSet_X5_hasPlaces
set_option maxRecDepth 20000 in
theorem ggX5_putSet_X5_putPlaces : GoodIn wsX5_putSet wsX5_putPlaces := goodIn_r _ [55, 1, 2, 56, 57, 7, 58, 12, 13, 14, 15, 16, 17, 18, 19, 20, 21, 22, 50, 51, 52, 23, 24, 25, 26, 27, 28, 29, 30, 31, 32, 33, 34, 35, 36, 37, 38, 39, 40, 41, 42, 43, 44, 45, 46, 47, 48, 49, 59, 60, 61, 10, 4, 62, 63, 64, 65, 66, 67, 68, 69, 70, 71, 72, 73, 74, 75, 112, 113, 114, 115, 116, 117, 118, 119] rfl (by decide +kernel)
set_option maxRecDepth 20000 in
theorem gX5_putSet_X5_putPlaces : GoodIn wsX5_putSet (va_wsS RX5 51 yX5_putPlaces wsX5_putPlaces) := goodIn_app (goodIn_of _ (by decide +kernel)) ggX5_putSet_X5_putPlaces
set_option maxRecDepth 20000 in
theorem ggX5_putSet_X5_putBody : GoodIn wsX5_putSet wsX5_putBody := goodIn_r _ [78, 10, 79, 80, 7, 81, 82, 83, 70, 71, 72, 73, 74, 75, 84, 85, 86, 87, 88, 89, 90, 91, 23, 24, 25, 26, 27, 28, 29, 30, 31, 32, 33, 34, 35, 36, 37, 38, 39, 40, 41, 42, 43, 44, 45, 46, 47, 48, 49, 92, 93, 94, 95, 96, 97, 62, 63, 64, 65, 66, 67, 68, 69, 98, 99, 100, 101, 102, 103, 104, 105, 106, 107, 108, 109, 110, 111, 114, 115, 116, 117, 118, 119] rfl (by decide +kernel)
set_option maxRecDepth 20000 in
theorem gX5_putSet_X5_putBody : GoodIn wsX5_putSet (va_wsS RX5 54 yX5_putBody wsX5_putBody) := goodIn_app (goodIn_of _ (by decide +kernel)) ggX5_putSet_X5_putBody
theorem dX5_putSet_0 : decode cX5_putSet 0 = .ok (.aload_n 0, 1) := by decide +kernel
theorem dX5_putSet_1 : decode cX5_putSet 1 = .ok (.aload_n 1, 1) := by decide +kernel
theorem dX5_putSet_2 : decode cX5_putSet 2 = .ok (.invokestatic 29, 3) := by decide +kernel
theorem dX5_putSet_5 : decode cX5_putSet 5 = .ok (.iconst 0, 1) := by decide +kernel
theorem dX5_putSet_6 : decode cX5_putSet 6 = .ok (.istore_n 2, 1) := by decide +kernel
theorem dX5_putSet_7 : decode cX5_putSet 7 = .ok (.iload_n 2, 1) := by decide +kernel
theorem dX5_putSet_8 : decode cX5_putSet 8 = .ok (.aload_n 0, 1) := by decide +kernel
theorem dX5_putSet_9 : decode cX5_putSet 9 = .ok (.getfield 15, 3) := by decide +kernel
theorem dX5_putSet_12 : decode cX5_putSet 12 = .ok (.if_icmp .ge 41, 3) := by decide +kernel
theorem dX5_putSet_15 : decode cX5_putSet 15 = .ok (.aload_n 1, 1) := by decide +kernel
theorem dX5_putSet_16 : decode cX5_putSet 16 = .ok (.aload_n 0, 1) := by decide +kernel
theorem dX5_putSet_17 : decode cX5_putSet 17 = .ok (.getfield 21, 3) := by decide +kernel
theorem dX5_putSet_20 : decode cX5_putSet 20 = .ok (.iload_n 2, 1) := by decide +kernel
theorem dX5_putSet_21 : decode cX5_putSet 21 = .ok (.aaload, 1) := by decide +kernel
theorem dX5_putSet_22 : decode cX5_putSet 22 = .ok (.getfield 33, 3) := by decide +kernel
theorem dX5_putSet_25 : decode cX5_putSet 25 = .ok (.i2l, 1) := by decide +kernel
theorem dX5_putSet_26 : decode cX5_putSet 26 = .ok (.iconst 2, 1) := by decide +kernel
theorem dX5_putSet_27 : decode cX5_putSet 27 = .ok (.invokevirtual 38, 3) := by decide +kernel
theorem dX5_putSet_30 : decode cX5_putSet 30 = .ok (.aload_n 1, 1) := by decide +kernel
theorem dX5_putSet_31 : decode cX5_putSet 31 = .ok (.aload_n 0, 1) := by decide +kernel
theorem dX5_putSet_32 : decode cX5_putSet 32 = .ok (.getfield 21, 3) := by decide +kernel
theorem dX5_putSet_35 : decode cX5_putSet 35 = .ok (.iload_n 2, 1) := by decide +kernel
theorem dX5_putSet_36 : decode cX5_putSet 36 = .ok (.aaload, 1) := by decide +kernel
theorem dX5_putSet_37 : decode cX5_putSet 37 = .ok (.getfield 44, 3) := by decide +kernel
theorem dX5_putSet_40 : decode cX5_putSet 40 = .ok (.iconst 1, 1) := by decide +kernel
theorem dX5_putSet_41 : decode cX5_putSet 41 = .ok (.isub, 1) := by decide +kernel
theorem dX5_putSet_42 : decode cX5_putSet 42 = .ok (.i2l, 1) := by decide +kernel
theorem dX5_putSet_43 : decode cX5_putSet 43 = .ok (.iconst 2, 1) := by decide +kernel
theorem dX5_putSet_44 : decode cX5_putSet 44 = .ok (.invokevirtual 38, 3) := by decide +kernel
theorem dX5_putSet_47 : decode cX5_putSet 47 = .ok (.iinc 2 1, 3) := by decide +kernel
theorem dX5_putSet_50 : decode cX5_putSet 50 = .ok (.goto (-43), 3) := by decide +kernel
theorem dX5_putSet_53 : decode cX5_putSet 53 = .ok (.aload_n 0, 1) := by decide +kernel
theorem dX5_putSet_54 : decode cX5_putSet 54 = .ok (.invokestatic 47, 3) := by decide +kernel
theorem dX5_putSet_57 : decode cX5_putSet 57 = .ok (.ifCond .eq 8, 3) := by decide +kernel
theorem dX5_putSet_60 : decode cX5_putSet 60 = .ok (.aload_n 0, 1) := by decide +kernel
theorem dX5_putSet_61 : decode cX5_putSet 61 = .ok (.aload_n 1, 1) := by decide +kernel
theorem dX5_putSet_62 : decode cX5_putSet 62 = .ok (.invokestatic 51, 3) := by decide +kernel
theorem dX5_putSet_65 : decode cX5_putSet 65 = .ok (.iconst 0, 1) := by decide +kernel
theorem dX5_putSet_66 : decode cX5_putSet 66 = .ok (.istore_n 2, 1) := by decide +kernel
theorem dX5_putSet_67 : decode cX5_putSet 67 = .ok (.iload_n 2, 1) := by decide +kernel
theorem dX5_putSet_68 : decode cX5_putSet 68 = .ok (.aload_n 0, 1) := by decide +kernel
theorem dX5_putSet_69 : decode cX5_putSet 69 = .ok (.getfield 15, 3) := by decide +kernel
theorem dX5_putSet_72 : decode cX5_putSet 72 = .ok (.if_icmp .ge 19, 3) := by decide +kernel
theorem dX5_putSet_75 : decode cX5_putSet 75 = .ok (.aload_n 0, 1) := by decide +kernel
theorem dX5_putSet_76 : decode cX5_putSet 76 = .ok (.getfield 21, 3) := by decide +kernel
theorem dX5_putSet_79 : decode cX5_putSet 79 = .ok (.iload_n 2, 1) := by decide +kernel
theorem dX5_putSet_80 : decode cX5_putSet 80 = .ok (.aaload, 1) := by decide +kernel
theorem dX5_putSet_81 : decode cX5_putSet 81 = .ok (.aload_n 1, 1) := by decide +kernel
theorem dX5_putSet_82 : decode cX5_putSet 82 = .ok (.invokestatic 54, 3) := by decide +kernel
theorem dX5_putSet_85 : decode cX5_putSet 85 = .ok (.iinc 2 1, 3) := by decide +kernel
theorem dX5_putSet_88 : decode cX5_putSet 88 = .ok (.goto (-21), 3) := by decide +kernel
theorem dX5_putSet_91 : decode cX5_putSet 91 = .ok (.return_, 1) := by decide +kernel
set_option maxRecDepth 20000 in
theorem ggX5_hasRuns_X2_totalOfKind : GoodIn wsX5_hasRuns wsX2_totalOfKind := goodIn_r _ [5, 6, 7, 8, 9, 10, 11, 12, 13, 14] rfl (by decide +kernel)
set_option maxRecDepth 20000 in
theorem gX5_hasRuns_X2_totalOfKind : GoodIn wsX5_hasRuns (wsV RX5 58 RX2 yX2_totalOfKind wsX2_totalOfKind) := goodIn_app (goodIn_of _ (by decide +kernel)) ggX5_hasRuns_X2_totalOfKind
theorem dX5_hasRuns_0 : decode cX5_hasRuns 0 = .ok (.aload_n 0, 1) := by decide +kernel
theorem dX5_hasRuns_1 : decode cX5_hasRuns 1 = .ok (.iconst 2, 1) := by decide +kernel
theorem dX5_hasRuns_2 : decode cX5_hasRuns 2 = .ok (.invokevirtual 58, 3) := by decide +kernel
theorem dX5_hasRuns_5 : decode cX5_hasRuns 5 = .ok (.ifCond .le 7, 3) := by decide +kernel
theorem dX5_hasRuns_8 : decode cX5_hasRuns 8 = .ok (.iconst 1, 1) := by decide +kernel
theorem dX5_hasRuns_9 : decode cX5_hasRuns 9 = .ok (.goto 4, 3) := by decide +kernel
theorem dX5_hasRuns_12 : decode cX5_hasRuns 12 = .ok (.iconst 0, 1) := by decide +kernel
theorem dX5_hasRuns_13 : decode cX5_hasRuns 13 = .ok (.ireturn, 1) := by decide +kernel
set_option maxRecDepth 20000 in
theorem ggX5_hasPlaces_X5_hasRuns : GoodIn wsX5_hasPlaces wsX5_hasRuns := goodIn_r _ [5, 6, 7, 8, 9, 10, 11, 12, 13, 14, 15, 16, 17, 18, 19] rfl (by decide +kernel)
set_option maxRecDepth 20000 in
theorem gX5_hasPlaces_X5_hasRuns : GoodIn wsX5_hasPlaces (va_wsS RX5 62 yX5_hasRuns wsX5_hasRuns) := goodIn_app (goodIn_of _ (by decide +kernel)) ggX5_hasPlaces_X5_hasRuns
theorem dX5_hasPlaces_0 : decode cX5_hasPlaces 0 = .ok (.aload_n 0, 1) := by decide +kernel
theorem dX5_hasPlaces_1 : decode cX5_hasPlaces 1 = .ok (.invokestatic 62, 3) := by decide +kernel
theorem dX5_hasPlaces_4 : decode cX5_hasPlaces 4 = .ok (.ifCond .eq 11, 3) := by decide +kernel
theorem dX5_hasPlaces_7 : decode cX5_hasPlaces 7 = .ok (.aload_n 0, 1) := by decide +kernel
theorem dX5_hasPlaces_8 : decode cX5_hasPlaces 8 = .ok (.getfield 15, 3) := by decide +kernel
theorem dX5_hasPlaces_11 : decode cX5_hasPlaces 11 = .ok (.iconst 4, 1) := by decide +kernel
theorem dX5_hasPlaces_12 : decode cX5_hasPlaces 12 = .ok (.if_icmp .lt 7, 3) := by decide +kernel
theorem dX5_hasPlaces_15 : decode cX5_hasPlaces 15 = .ok (.iconst 1, 1) := by decide +kernel
theorem dX5_hasPlaces_16 : decode cX5_hasPlaces 16 = .ok (.goto 4, 3) := by decide +kernel
theorem dX5_hasPlaces_19 : decode cX5_hasPlaces 19 = .ok (.iconst 0, 1) := by decide +kernel
theorem dX5_hasPlaces_20 : decode cX5_hasPlaces 20 = .ok (.ireturn, 1) := by decide +kernel
set_option maxRecDepth 20000 in
theorem ggX5_headBytesOf_X5_hasRuns : GoodIn wsX5_headBytesOf wsX5_hasRuns := goodIn_r _ [5, 6, 7, 8, 9, 10, 11, 12, 13, 17, 18, 19, 20, 21, 22] rfl (by decide +kernel)
set_option maxRecDepth 20000 in
theorem gX5_headBytesOf_X5_hasRuns : GoodIn wsX5_headBytesOf (va_wsS RX5 62 yX5_hasRuns wsX5_hasRuns) := goodIn_app (goodIn_of _ (by decide +kernel)) ggX5_headBytesOf_X5_hasRuns
set_option maxRecDepth 20000 in
theorem ggX5_headBytesOf_X5_hasPlaces : GoodIn wsX5_headBytesOf wsX5_hasPlaces := goodIn_r _ [16, 1, 2, 3, 4, 5, 6, 7, 8, 9, 10, 11, 12, 13, 17, 18, 19, 20, 21, 22] rfl (by decide +kernel)
set_option maxRecDepth 20000 in
theorem gX5_headBytesOf_X5_hasPlaces : GoodIn wsX5_headBytesOf (va_wsS RX5 47 yX5_hasPlaces wsX5_hasPlaces) := goodIn_app (goodIn_of _ (by decide +kernel)) ggX5_headBytesOf_X5_hasPlaces
theorem dX5_headBytesOf_0 : decode cX5_headBytesOf 0 = .ok (.aload_n 0, 1) := by decide +kernel
theorem dX5_headBytesOf_1 : decode cX5_headBytesOf 1 = .ok (.invokestatic 62, 3) := by decide +kernel
theorem dX5_headBytesOf_4 : decode cX5_headBytesOf 4 = .ok (.ifCond .eq 18, 3) := by decide +kernel
theorem dX5_headBytesOf_7 : decode cX5_headBytesOf 7 = .ok (.iconst 4, 1) := by decide +kernel
theorem dX5_headBytesOf_8 : decode cX5_headBytesOf 8 = .ok (.aload_n 0, 1) := by decide +kernel
theorem dX5_headBytesOf_9 : decode cX5_headBytesOf 9 = .ok (.getfield 15, 3) := by decide +kernel
theorem dX5_headBytesOf_12 : decode cX5_headBytesOf 12 = .ok (.bipush 7, 2) := by decide +kernel
theorem dX5_headBytesOf_14 : decode cX5_headBytesOf 14 = .ok (.iadd, 1) := by decide +kernel
theorem dX5_headBytesOf_15 : decode cX5_headBytesOf 15 = .ok (.bipush 8, 2) := by decide +kernel
theorem dX5_headBytesOf_17 : decode cX5_headBytesOf 17 = .ok (.idiv, 1) := by decide +kernel
theorem dX5_headBytesOf_18 : decode cX5_headBytesOf 18 = .ok (.iadd, 1) := by decide +kernel
theorem dX5_headBytesOf_19 : decode cX5_headBytesOf 19 = .ok (.goto 5, 3) := by decide +kernel
theorem dX5_headBytesOf_22 : decode cX5_headBytesOf 22 = .ok (.bipush 8, 2) := by decide +kernel
theorem dX5_headBytesOf_24 : decode cX5_headBytesOf 24 = .ok (.istore_n 1, 1) := by decide +kernel
theorem dX5_headBytesOf_25 : decode cX5_headBytesOf 25 = .ok (.iload_n 1, 1) := by decide +kernel
theorem dX5_headBytesOf_26 : decode cX5_headBytesOf 26 = .ok (.aload_n 0, 1) := by decide +kernel
theorem dX5_headBytesOf_27 : decode cX5_headBytesOf 27 = .ok (.invokestatic 47, 3) := by decide +kernel
theorem dX5_headBytesOf_30 : decode cX5_headBytesOf 30 = .ok (.ifCond .eq 8, 3) := by decide +kernel
theorem dX5_headBytesOf_33 : decode cX5_headBytesOf 33 = .ok (.bipush 8, 2) := by decide +kernel
theorem dX5_headBytesOf_35 : decode cX5_headBytesOf 35 = .ok (.goto 4, 3) := by decide +kernel
theorem dX5_headBytesOf_38 : decode cX5_headBytesOf 38 = .ok (.iconst 4, 1) := by decide +kernel
theorem dX5_headBytesOf_39 : decode cX5_headBytesOf 39 = .ok (.aload_n 0, 1) := by decide +kernel
theorem dX5_headBytesOf_40 : decode cX5_headBytesOf 40 = .ok (.getfield 15, 3) := by decide +kernel
theorem dX5_headBytesOf_43 : decode cX5_headBytesOf 43 = .ok (.imul, 1) := by decide +kernel
theorem dX5_headBytesOf_44 : decode cX5_headBytesOf 44 = .ok (.iadd, 1) := by decide +kernel
theorem dX5_headBytesOf_45 : decode cX5_headBytesOf 45 = .ok (.ireturn, 1) := by decide +kernel
set_option maxRecDepth 20000 in
theorem ggX5_bodyBytesOf_X1_totalRuns : GoodIn wsX5_bodyBytesOf wsX1_totalRuns := goodIn_r _ [7, 8, 9, 10, 11, 12, 13, 14, 15, 16, 17, 18, 19, 20] rfl (by decide +kernel)
set_option maxRecDepth 20000 in
theorem gX5_bodyBytesOf_X1_totalRuns : GoodIn wsX5_bodyBytesOf (wsV RX5 68 RX1 yX1_totalRuns wsX1_totalRuns) := goodIn_app (goodIn_of _ (by decide +kernel)) ggX5_bodyBytesOf_X1_totalRuns
theorem dX5_bodyBytesOf_0 : decode cX5_bodyBytesOf 0 = .ok (.aload_n 0, 1) := by decide +kernel
theorem dX5_bodyBytesOf_1 : decode cX5_bodyBytesOf 1 = .ok (.getfield 65, 3) := by decide +kernel
theorem dX5_bodyBytesOf_4 : decode cX5_bodyBytesOf 4 = .ok (.lookupswitch 39 #[(0, 28), (1, 35)], 28) := by decide +kernel
theorem dX5_bodyBytesOf_32 : decode cX5_bodyBytesOf 32 = .ok (.iconst 2, 1) := by decide +kernel
theorem dX5_bodyBytesOf_33 : decode cX5_bodyBytesOf 33 = .ok (.aload_n 0, 1) := by decide +kernel
theorem dX5_bodyBytesOf_34 : decode cX5_bodyBytesOf 34 = .ok (.getfield 44, 3) := by decide +kernel
theorem dX5_bodyBytesOf_37 : decode cX5_bodyBytesOf 37 = .ok (.imul, 1) := by decide +kernel
theorem dX5_bodyBytesOf_38 : decode cX5_bodyBytesOf 38 = .ok (.ireturn, 1) := by decide +kernel
theorem dX5_bodyBytesOf_39 : decode cX5_bodyBytesOf 39 = .ok (.sipush 8192, 3) := by decide +kernel
theorem dX5_bodyBytesOf_42 : decode cX5_bodyBytesOf 42 = .ok (.ireturn, 1) := by decide +kernel
theorem dX5_bodyBytesOf_43 : decode cX5_bodyBytesOf 43 = .ok (.iconst 2, 1) := by decide +kernel
theorem dX5_bodyBytesOf_44 : decode cX5_bodyBytesOf 44 = .ok (.iconst 4, 1) := by decide +kernel
theorem dX5_bodyBytesOf_45 : decode cX5_bodyBytesOf 45 = .ok (.aload_n 0, 1) := by decide +kernel
theorem dX5_bodyBytesOf_46 : decode cX5_bodyBytesOf 46 = .ok (.invokevirtual 68, 3) := by decide +kernel
theorem dX5_bodyBytesOf_49 : decode cX5_bodyBytesOf 49 = .ok (.imul, 1) := by decide +kernel
theorem dX5_bodyBytesOf_50 : decode cX5_bodyBytesOf 50 = .ok (.iadd, 1) := by decide +kernel
theorem dX5_bodyBytesOf_51 : decode cX5_bodyBytesOf 51 = .ok (.ireturn, 1) := by decide +kernel
set_option maxRecDepth 20000 in
theorem ggX5_putMark_X5_hasRuns : GoodIn wsX5_putMark wsX5_hasRuns := goodIn_r _ [9, 10, 11, 12, 13, 14, 15, 16, 17, 45, 46, 47, 48, 49, 50] rfl (by decide +kernel)
set_option maxRecDepth 20000 in
theorem gX5_putMark_X5_hasRuns : GoodIn wsX5_putMark (va_wsS RX5 62 yX5_hasRuns wsX5_hasRuns) := goodIn_app (goodIn_of _ (by decide +kernel)) ggX5_putMark_X5_hasRuns
set_option maxRecDepth 20000 in
theorem ggX5_putMark_X0_put : GoodIn wsX5_putMark wsX0_put := goodIn_r _ [22, 23, 24, 25, 26, 27, 28, 29, 30, 31, 32, 33, 34, 35, 36, 37, 38, 39, 40, 41, 42, 43, 44, 51, 52] rfl (by decide +kernel)
set_option maxRecDepth 20000 in
theorem gX5_putMark_X0_put : GoodIn wsX5_putMark (wsV RX5 38 RX0 yX0_put wsX0_put) := goodIn_app (goodIn_of _ (by decide +kernel)) ggX5_putMark_X0_put
theorem dX5_putMark_0 : decode cX5_putMark 0 = .ok (.aload_n 0, 1) := by decide +kernel
theorem dX5_putMark_1 : decode cX5_putMark 1 = .ok (.invokestatic 62, 3) := by decide +kernel
theorem dX5_putMark_4 : decode cX5_putMark 4 = .ok (.ifCond .ne 22, 3) := by decide +kernel
theorem dX5_putMark_7 : decode cX5_putMark 7 = .ok (.aload_n 1, 1) := by decide +kernel
theorem dX5_putMark_8 : decode cX5_putMark 8 = .ok (.ldc2_w 72, 3) := by decide +kernel
theorem dX5_putMark_11 : decode cX5_putMark 11 = .ok (.iconst 4, 1) := by decide +kernel
theorem dX5_putMark_12 : decode cX5_putMark 12 = .ok (.invokevirtual 38, 3) := by decide +kernel
theorem dX5_putMark_15 : decode cX5_putMark 15 = .ok (.aload_n 1, 1) := by decide +kernel
theorem dX5_putMark_16 : decode cX5_putMark 16 = .ok (.aload_n 0, 1) := by decide +kernel
theorem dX5_putMark_17 : decode cX5_putMark 17 = .ok (.getfield 15, 3) := by decide +kernel
theorem dX5_putMark_20 : decode cX5_putMark 20 = .ok (.i2l, 1) := by decide +kernel
theorem dX5_putMark_21 : decode cX5_putMark 21 = .ok (.iconst 4, 1) := by decide +kernel
theorem dX5_putMark_22 : decode cX5_putMark 22 = .ok (.invokevirtual 38, 3) := by decide +kernel
theorem dX5_putMark_25 : decode cX5_putMark 25 = .ok (.return_, 1) := by decide +kernel
theorem dX5_putMark_26 : decode cX5_putMark 26 = .ok (.lconst 0, 1) := by decide +kernel
theorem dX5_putMark_27 : decode cX5_putMark 27 = .ok (.lstore_n 2, 1) := by decide +kernel
theorem dX5_putMark_28 : decode cX5_putMark 28 = .ok (.iconst 0, 1) := by decide +kernel
theorem dX5_putMark_29 : decode cX5_putMark 29 = .ok (.istore 4, 2) := by decide +kernel
theorem dX5_putMark_31 : decode cX5_putMark 31 = .ok (.iload 4, 2) := by decide +kernel
theorem dX5_putMark_33 : decode cX5_putMark 33 = .ok (.aload_n 0, 1) := by decide +kernel
theorem dX5_putMark_34 : decode cX5_putMark 34 = .ok (.getfield 15, 3) := by decide +kernel
theorem dX5_putMark_37 : decode cX5_putMark 37 = .ok (.if_icmp .ge 30, 3) := by decide +kernel
theorem dX5_putMark_40 : decode cX5_putMark 40 = .ok (.aload_n 0, 1) := by decide +kernel
theorem dX5_putMark_41 : decode cX5_putMark 41 = .ok (.getfield 21, 3) := by decide +kernel
theorem dX5_putMark_44 : decode cX5_putMark 44 = .ok (.iload 4, 2) := by decide +kernel
theorem dX5_putMark_46 : decode cX5_putMark 46 = .ok (.aaload, 1) := by decide +kernel
theorem dX5_putMark_47 : decode cX5_putMark 47 = .ok (.getfield 65, 3) := by decide +kernel
theorem dX5_putMark_50 : decode cX5_putMark 50 = .ok (.iconst 2, 1) := by decide +kernel
theorem dX5_putMark_51 : decode cX5_putMark 51 = .ok (.if_icmp .ne 10, 3) := by decide +kernel
theorem dX5_putMark_54 : decode cX5_putMark 54 = .ok (.lload_n 2, 1) := by decide +kernel
theorem dX5_putMark_55 : decode cX5_putMark 55 = .ok (.lconst 1, 1) := by decide +kernel
theorem dX5_putMark_56 : decode cX5_putMark 56 = .ok (.iload 4, 2) := by decide +kernel
theorem dX5_putMark_58 : decode cX5_putMark 58 = .ok (.lshl, 1) := by decide +kernel
theorem dX5_putMark_59 : decode cX5_putMark 59 = .ok (.lor, 1) := by decide +kernel
theorem dX5_putMark_60 : decode cX5_putMark 60 = .ok (.lstore_n 2, 1) := by decide +kernel
theorem dX5_putMark_61 : decode cX5_putMark 61 = .ok (.iinc 4 1, 3) := by decide +kernel
theorem dX5_putMark_64 : decode cX5_putMark 64 = .ok (.goto (-33), 3) := by decide +kernel
theorem dX5_putMark_67 : decode cX5_putMark 67 = .ok (.aload_n 1, 1) := by decide +kernel
theorem dX5_putMark_68 : decode cX5_putMark 68 = .ok (.ldc2_w 74, 3) := by decide +kernel
theorem dX5_putMark_71 : decode cX5_putMark 71 = .ok (.iconst 2, 1) := by decide +kernel
theorem dX5_putMark_72 : decode cX5_putMark 72 = .ok (.invokevirtual 38, 3) := by decide +kernel
theorem dX5_putMark_75 : decode cX5_putMark 75 = .ok (.aload_n 1, 1) := by decide +kernel
theorem dX5_putMark_76 : decode cX5_putMark 76 = .ok (.aload_n 0, 1) := by decide +kernel
theorem dX5_putMark_77 : decode cX5_putMark 77 = .ok (.getfield 15, 3) := by decide +kernel
theorem dX5_putMark_80 : decode cX5_putMark 80 = .ok (.iconst 1, 1) := by decide +kernel
theorem dX5_putMark_81 : decode cX5_putMark 81 = .ok (.isub, 1) := by decide +kernel
theorem dX5_putMark_82 : decode cX5_putMark 82 = .ok (.i2l, 1) := by decide +kernel
theorem dX5_putMark_83 : decode cX5_putMark 83 = .ok (.iconst 2, 1) := by decide +kernel
theorem dX5_putMark_84 : decode cX5_putMark 84 = .ok (.invokevirtual 38, 3) := by decide +kernel
theorem dX5_putMark_87 : decode cX5_putMark 87 = .ok (.aload_n 1, 1) := by decide +kernel
theorem dX5_putMark_88 : decode cX5_putMark 88 = .ok (.lload_n 2, 1) := by decide +kernel
theorem dX5_putMark_89 : decode cX5_putMark 89 = .ok (.aload_n 0, 1) := by decide +kernel
theorem dX5_putMark_90 : decode cX5_putMark 90 = .ok (.getfield 15, 3) := by decide +kernel
theorem dX5_putMark_93 : decode cX5_putMark 93 = .ok (.bipush 7, 2) := by decide +kernel
theorem dX5_putMark_95 : decode cX5_putMark 95 = .ok (.iadd, 1) := by decide +kernel
theorem dX5_putMark_96 : decode cX5_putMark 96 = .ok (.bipush 8, 2) := by decide +kernel
theorem dX5_putMark_98 : decode cX5_putMark 98 = .ok (.idiv, 1) := by decide +kernel
theorem dX5_putMark_99 : decode cX5_putMark 99 = .ok (.invokevirtual 38, 3) := by decide +kernel
theorem dX5_putMark_102 : decode cX5_putMark 102 = .ok (.return_, 1) := by decide +kernel
set_option maxRecDepth 20000 in
theorem ggX5_putPlaces_X5_headBytesOf : GoodIn wsX5_putPlaces wsX5_headBytesOf := goodIn_r _ [6, 1, 7, 8, 5, 9, 10, 11, 12, 13, 14, 15, 16, 17, 18, 19, 20, 67, 68, 69, 70, 71, 72] rfl (by decide +kernel)
set_option maxRecDepth 20000 in
theorem gX5_putPlaces_X5_headBytesOf : GoodIn wsX5_putPlaces (va_wsS RX5 9 yX5_headBytesOf wsX5_headBytesOf) := goodIn_app (goodIn_of _ (by decide +kernel)) ggX5_putPlaces_X5_headBytesOf
set_option maxRecDepth 20000 in
theorem ggX5_putPlaces_X0_put : GoodIn wsX5_putPlaces wsX0_put := goodIn_r _ [25, 26, 27, 28, 29, 30, 31, 32, 33, 34, 35, 36, 37, 38, 39, 40, 41, 42, 43, 44, 45, 46, 47, 73, 74] rfl (by decide +kernel)
set_option maxRecDepth 20000 in
theorem gX5_putPlaces_X0_put : GoodIn wsX5_putPlaces (wsV RX5 38 RX0 yX0_put wsX0_put) := goodIn_app (goodIn_of _ (by decide +kernel)) ggX5_putPlaces_X0_put
set_option maxRecDepth 20000 in
theorem ggX5_putPlaces_X5_bodyBytesOf : GoodIn wsX5_putPlaces wsX5_bodyBytesOf := goodIn_r _ [50, 51, 52, 53, 54, 55, 56, 57, 58, 59, 60, 61, 62, 63, 64, 65, 66, 69, 70, 71, 72] rfl (by decide +kernel)
set_option maxRecDepth 20000 in
theorem gX5_putPlaces_X5_bodyBytesOf : GoodIn wsX5_putPlaces (va_wsS RX5 25 yX5_bodyBytesOf wsX5_bodyBytesOf) := goodIn_app (goodIn_of _ (by decide +kernel)) ggX5_putPlaces_X5_bodyBytesOf
theorem dX5_putPlaces_0 : decode cX5_putPlaces 0 = .ok (.aload_n 0, 1) := by decide +kernel
theorem dX5_putPlaces_1 : decode cX5_putPlaces 1 = .ok (.invokestatic 9, 3) := by decide +kernel
theorem dX5_putPlaces_4 : decode cX5_putPlaces 4 = .ok (.istore_n 2, 1) := by decide +kernel
theorem dX5_putPlaces_5 : decode cX5_putPlaces 5 = .ok (.iconst 0, 1) := by decide +kernel
theorem dX5_putPlaces_6 : decode cX5_putPlaces 6 = .ok (.istore_n 3, 1) := by decide +kernel
theorem dX5_putPlaces_7 : decode cX5_putPlaces 7 = .ok (.iload_n 3, 1) := by decide +kernel
theorem dX5_putPlaces_8 : decode cX5_putPlaces 8 = .ok (.aload_n 0, 1) := by decide +kernel
theorem dX5_putPlaces_9 : decode cX5_putPlaces 9 = .ok (.getfield 15, 3) := by decide +kernel
theorem dX5_putPlaces_12 : decode cX5_putPlaces 12 = .ok (.if_icmp .ge 28, 3) := by decide +kernel
theorem dX5_putPlaces_15 : decode cX5_putPlaces 15 = .ok (.aload_n 1, 1) := by decide +kernel
theorem dX5_putPlaces_16 : decode cX5_putPlaces 16 = .ok (.iload_n 2, 1) := by decide +kernel
theorem dX5_putPlaces_17 : decode cX5_putPlaces 17 = .ok (.i2l, 1) := by decide +kernel
theorem dX5_putPlaces_18 : decode cX5_putPlaces 18 = .ok (.iconst 4, 1) := by decide +kernel
theorem dX5_putPlaces_19 : decode cX5_putPlaces 19 = .ok (.invokevirtual 38, 3) := by decide +kernel
theorem dX5_putPlaces_22 : decode cX5_putPlaces 22 = .ok (.iload_n 2, 1) := by decide +kernel
theorem dX5_putPlaces_23 : decode cX5_putPlaces 23 = .ok (.aload_n 0, 1) := by decide +kernel
theorem dX5_putPlaces_24 : decode cX5_putPlaces 24 = .ok (.getfield 21, 3) := by decide +kernel
theorem dX5_putPlaces_27 : decode cX5_putPlaces 27 = .ok (.iload_n 3, 1) := by decide +kernel
theorem dX5_putPlaces_28 : decode cX5_putPlaces 28 = .ok (.aaload, 1) := by decide +kernel
theorem dX5_putPlaces_29 : decode cX5_putPlaces 29 = .ok (.invokestatic 25, 3) := by decide +kernel
theorem dX5_putPlaces_32 : decode cX5_putPlaces 32 = .ok (.iadd, 1) := by decide +kernel
theorem dX5_putPlaces_33 : decode cX5_putPlaces 33 = .ok (.istore_n 2, 1) := by decide +kernel
theorem dX5_putPlaces_34 : decode cX5_putPlaces 34 = .ok (.iinc 3 1, 3) := by decide +kernel
theorem dX5_putPlaces_37 : decode cX5_putPlaces 37 = .ok (.goto (-30), 3) := by decide +kernel
theorem dX5_putPlaces_40 : decode cX5_putPlaces 40 = .ok (.return_, 1) := by decide +kernel
set_option maxRecDepth 20000 in
theorem ggX5_putBody_X5_putArray : GoodIn wsX5_putBody wsX5_putArray := goodIn_r _ [5, 6, 7, 8, 9, 10, 11, 12, 13, 14, 15, 16, 17, 18, 19, 20, 21, 22, 23, 24, 25, 26, 27, 28, 29, 30, 31, 32, 33, 34, 35, 36, 37, 38, 39, 40, 41, 42, 43, 44, 45, 46, 47, 48, 77, 78, 79, 80, 81, 82] rfl (by decide +kernel)
set_option maxRecDepth 20000 in
theorem gX5_putBody_X5_putArray : GoodIn wsX5_putBody (va_wsS RX5 76 yX5_putArray wsX5_putArray) := goodIn_app (goodIn_of _ (by decide +kernel)) ggX5_putBody_X5_putArray
set_option maxRecDepth 20000 in
theorem ggX5_putBody_X5_putBitmap : GoodIn wsX5_putBody wsX5_putBitmap := goodIn_r _ [51, 6, 22, 23, 24, 25, 26, 27, 28, 29, 30, 31, 32, 33, 34, 35, 36, 37, 38, 39, 40, 41, 42, 43, 44, 45, 46, 47, 48, 77, 78, 79, 80, 81, 82] rfl (by decide +kernel)
set_option maxRecDepth 20000 in
theorem gX5_putBody_X5_putBitmap : GoodIn wsX5_putBody (va_wsS RX5 79 yX5_putBitmap wsX5_putBitmap) := goodIn_app (goodIn_of _ (by decide +kernel)) ggX5_putBody_X5_putBitmap
set_option maxRecDepth 20000 in
theorem ggX5_putBody_X5_putRuns : GoodIn wsX5_putBody wsX5_putRuns := goodIn_r _ [54, 55, 56, 57, 58, 59, 60, 61, 62, 8, 9, 10, 11, 12, 13, 22, 23, 24, 25, 26, 27, 28, 29, 30, 31, 32, 33, 34, 35, 36, 37, 38, 39, 40, 41, 42, 43, 44, 45, 46, 47, 48, 63, 64, 65, 66, 67, 68, 69, 70, 71, 72, 15, 16, 17, 18, 19, 20, 21, 73, 74, 75, 76, 77, 78, 79, 80, 81, 82] rfl (by decide +kernel)
set_option maxRecDepth 20000 in
theorem gX5_putBody_X5_putRuns : GoodIn wsX5_putBody (va_wsS RX5 82 yX5_putRuns wsX5_putRuns) := goodIn_app (goodIn_of _ (by decide +kernel)) ggX5_putBody_X5_putRuns
theorem dX5_putBody_0 : decode cX5_putBody 0 = .ok (.aload_n 0, 1) := by decide +kernel
theorem dX5_putBody_1 : decode cX5_putBody 1 = .ok (.getfield 65, 3) := by decide +kernel
theorem dX5_putBody_4 : decode cX5_putBody 4 = .ok (.lookupswitch 44 #[(0, 28), (1, 36)], 28) := by decide +kernel
theorem dX5_putBody_32 : decode cX5_putBody 32 = .ok (.aload_n 0, 1) := by decide +kernel
theorem dX5_putBody_33 : decode cX5_putBody 33 = .ok (.aload_n 1, 1) := by decide +kernel
theorem dX5_putBody_34 : decode cX5_putBody 34 = .ok (.invokestatic 76, 3) := by decide +kernel
theorem dX5_putBody_37 : decode cX5_putBody 37 = .ok (.goto 16, 3) := by decide +kernel
theorem dX5_putBody_40 : decode cX5_putBody 40 = .ok (.aload_n 0, 1) := by decide +kernel
theorem dX5_putBody_41 : decode cX5_putBody 41 = .ok (.aload_n 1, 1) := by decide +kernel
theorem dX5_putBody_42 : decode cX5_putBody 42 = .ok (.invokestatic 79, 3) := by decide +kernel
theorem dX5_putBody_45 : decode cX5_putBody 45 = .ok (.goto 8, 3) := by decide +kernel
theorem dX5_putBody_48 : decode cX5_putBody 48 = .ok (.aload_n 0, 1) := by decide +kernel
theorem dX5_putBody_49 : decode cX5_putBody 49 = .ok (.aload_n 1, 1) := by decide +kernel
theorem dX5_putBody_50 : decode cX5_putBody 50 = .ok (.invokestatic 82, 3) := by decide +kernel
theorem dX5_putBody_53 : decode cX5_putBody 53 = .ok (.return_, 1) := by decide +kernel
set_option maxRecDepth 20000 in
theorem ggX5_putArray_J13_bitCount_95d88 : GoodIn wsX5_putArray wsJ13_bitCount_95d88 := goodIn_r _ [5, 6, 7, 8] rfl (by decide +kernel)
set_option maxRecDepth 20000 in
theorem gX5_putArray_J13_bitCount_95d88 : GoodIn wsX5_putArray (va_wsS RX5 89 yJ13_bitCount_95d88 wsJ13_bitCount_95d88) := goodIn_app (goodIn_of _ (by decide +kernel)) ggX5_putArray_J13_bitCount_95d88
set_option maxRecDepth 20000 in
theorem ggX5_putArray_J13_numberOfTrailingZeros_95d88 : GoodIn wsX5_putArray wsJ13_numberOfTrailingZeros_95d88 := goodIn_r _ [11, 12, 13, 14, 15, 16] rfl (by decide +kernel)
set_option maxRecDepth 20000 in
theorem gX5_putArray_J13_numberOfTrailingZeros_95d88 : GoodIn wsX5_putArray (va_wsS RX5 95 yJ13_numberOfTrailingZeros_95d88 wsJ13_numberOfTrailingZeros_95d88) := goodIn_app (goodIn_of _ (by decide +kernel)) ggX5_putArray_J13_numberOfTrailingZeros_95d88
set_option maxRecDepth 20000 in
theorem ggX5_putArray_X0_put : GoodIn wsX5_putArray wsX0_put := goodIn_r _ [21, 22, 23, 24, 25, 26, 27, 28, 29, 30, 31, 32, 33, 34, 35, 36, 37, 38, 39, 40, 41, 42, 43, 48, 49] rfl (by decide +kernel)
set_option maxRecDepth 20000 in
theorem gX5_putArray_X0_put : GoodIn wsX5_putArray (wsV RX5 38 RX0 yX0_put wsX0_put) := goodIn_app (goodIn_of _ (by decide +kernel)) ggX5_putArray_X0_put
theorem dX5_putArray_0 : decode cX5_putArray 0 = .ok (.iconst 0, 1) := by decide +kernel
theorem dX5_putArray_1 : decode cX5_putArray 1 = .ok (.istore_n 2, 1) := by decide +kernel
theorem dX5_putArray_2 : decode cX5_putArray 2 = .ok (.iload_n 2, 1) := by decide +kernel
theorem dX5_putArray_3 : decode cX5_putArray 3 = .ok (.sipush 1024, 3) := by decide +kernel
theorem dX5_putArray_6 : decode cX5_putArray 6 = .ok (.if_icmp .ge 59, 3) := by decide +kernel
theorem dX5_putArray_9 : decode cX5_putArray 9 = .ok (.aload_n 0, 1) := by decide +kernel
theorem dX5_putArray_10 : decode cX5_putArray 10 = .ok (.getfield 85, 3) := by decide +kernel
theorem dX5_putArray_13 : decode cX5_putArray 13 = .ok (.iload_n 2, 1) := by decide +kernel
theorem dX5_putArray_14 : decode cX5_putArray 14 = .ok (.laload, 1) := by decide +kernel
theorem dX5_putArray_15 : decode cX5_putArray 15 = .ok (.lstore_n 3, 1) := by decide +kernel
theorem dX5_putArray_16 : decode cX5_putArray 16 = .ok (.lload_n 3, 1) := by decide +kernel
theorem dX5_putArray_17 : decode cX5_putArray 17 = .ok (.invokestatic 89, 3) := by decide +kernel
theorem dX5_putArray_20 : decode cX5_putArray 20 = .ok (.istore 5, 2) := by decide +kernel
theorem dX5_putArray_22 : decode cX5_putArray 22 = .ok (.iconst 0, 1) := by decide +kernel
theorem dX5_putArray_23 : decode cX5_putArray 23 = .ok (.istore 6, 2) := by decide +kernel
theorem dX5_putArray_25 : decode cX5_putArray 25 = .ok (.iload 6, 2) := by decide +kernel
theorem dX5_putArray_27 : decode cX5_putArray 27 = .ok (.iload 5, 2) := by decide +kernel
theorem dX5_putArray_29 : decode cX5_putArray 29 = .ok (.if_icmp .ge 30, 3) := by decide +kernel
theorem dX5_putArray_32 : decode cX5_putArray 32 = .ok (.aload_n 1, 1) := by decide +kernel
theorem dX5_putArray_33 : decode cX5_putArray 33 = .ok (.iload_n 2, 1) := by decide +kernel
theorem dX5_putArray_34 : decode cX5_putArray 34 = .ok (.bipush 6, 2) := by decide +kernel
theorem dX5_putArray_36 : decode cX5_putArray 36 = .ok (.ishl, 1) := by decide +kernel
theorem dX5_putArray_37 : decode cX5_putArray 37 = .ok (.lload_n 3, 1) := by decide +kernel
theorem dX5_putArray_38 : decode cX5_putArray 38 = .ok (.invokestatic 95, 3) := by decide +kernel
theorem dX5_putArray_41 : decode cX5_putArray 41 = .ok (.iadd, 1) := by decide +kernel
theorem dX5_putArray_42 : decode cX5_putArray 42 = .ok (.i2l, 1) := by decide +kernel
theorem dX5_putArray_43 : decode cX5_putArray 43 = .ok (.iconst 2, 1) := by decide +kernel
theorem dX5_putArray_44 : decode cX5_putArray 44 = .ok (.invokevirtual 38, 3) := by decide +kernel
theorem dX5_putArray_47 : decode cX5_putArray 47 = .ok (.lload_n 3, 1) := by decide +kernel
theorem dX5_putArray_48 : decode cX5_putArray 48 = .ok (.lload_n 3, 1) := by decide +kernel
theorem dX5_putArray_49 : decode cX5_putArray 49 = .ok (.lconst 1, 1) := by decide +kernel
theorem dX5_putArray_50 : decode cX5_putArray 50 = .ok (.lsub, 1) := by decide +kernel
theorem dX5_putArray_51 : decode cX5_putArray 51 = .ok (.land, 1) := by decide +kernel
theorem dX5_putArray_52 : decode cX5_putArray 52 = .ok (.lstore_n 3, 1) := by decide +kernel
theorem dX5_putArray_53 : decode cX5_putArray 53 = .ok (.iinc 6 1, 3) := by decide +kernel
theorem dX5_putArray_56 : decode cX5_putArray 56 = .ok (.goto (-31), 3) := by decide +kernel
theorem dX5_putArray_59 : decode cX5_putArray 59 = .ok (.iinc 2 1, 3) := by decide +kernel
theorem dX5_putArray_62 : decode cX5_putArray 62 = .ok (.goto (-60), 3) := by decide +kernel
theorem dX5_putArray_65 : decode cX5_putArray 65 = .ok (.return_, 1) := by decide +kernel
set_option maxRecDepth 20000 in
theorem ggX5_putBitmap_X0_put : GoodIn wsX5_putBitmap wsX0_put := goodIn_r _ [6, 7, 8, 9, 10, 11, 12, 13, 14, 15, 16, 17, 18, 19, 20, 21, 22, 23, 24, 25, 26, 27, 28, 33, 34] rfl (by decide +kernel)
set_option maxRecDepth 20000 in
theorem gX5_putBitmap_X0_put : GoodIn wsX5_putBitmap (wsV RX5 38 RX0 yX0_put wsX0_put) := goodIn_app (goodIn_of _ (by decide +kernel)) ggX5_putBitmap_X0_put
theorem dX5_putBitmap_0 : decode cX5_putBitmap 0 = .ok (.iconst 0, 1) := by decide +kernel
theorem dX5_putBitmap_1 : decode cX5_putBitmap 1 = .ok (.istore_n 2, 1) := by decide +kernel
theorem dX5_putBitmap_2 : decode cX5_putBitmap 2 = .ok (.iload_n 2, 1) := by decide +kernel
theorem dX5_putBitmap_3 : decode cX5_putBitmap 3 = .ok (.sipush 1024, 3) := by decide +kernel
theorem dX5_putBitmap_6 : decode cX5_putBitmap 6 = .ok (.if_icmp .ge 21, 3) := by decide +kernel
theorem dX5_putBitmap_9 : decode cX5_putBitmap 9 = .ok (.aload_n 1, 1) := by decide +kernel
theorem dX5_putBitmap_10 : decode cX5_putBitmap 10 = .ok (.aload_n 0, 1) := by decide +kernel
theorem dX5_putBitmap_11 : decode cX5_putBitmap 11 = .ok (.getfield 85, 3) := by decide +kernel
theorem dX5_putBitmap_14 : decode cX5_putBitmap 14 = .ok (.iload_n 2, 1) := by decide +kernel
theorem dX5_putBitmap_15 : decode cX5_putBitmap 15 = .ok (.laload, 1) := by decide +kernel
theorem dX5_putBitmap_16 : decode cX5_putBitmap 16 = .ok (.bipush 8, 2) := by decide +kernel
theorem dX5_putBitmap_18 : decode cX5_putBitmap 18 = .ok (.invokevirtual 38, 3) := by decide +kernel
theorem dX5_putBitmap_21 : decode cX5_putBitmap 21 = .ok (.iinc 2 1, 3) := by decide +kernel
theorem dX5_putBitmap_24 : decode cX5_putBitmap 24 = .ok (.goto (-22), 3) := by decide +kernel
theorem dX5_putBitmap_27 : decode cX5_putBitmap 27 = .ok (.return_, 1) := by decide +kernel
set_option maxRecDepth 20000 in
theorem ggX5_putRuns_X1_totalRuns : GoodIn wsX5_putRuns wsX1_totalRuns := goodIn_r _ [5, 6, 7, 8, 9, 10, 11, 12, 13, 14, 63, 64, 65, 66] rfl (by decide +kernel)
set_option maxRecDepth 20000 in
theorem gX5_putRuns_X1_totalRuns : GoodIn wsX5_putRuns (wsV RX5 68 RX1 yX1_totalRuns wsX1_totalRuns) := goodIn_app (goodIn_of _ (by decide +kernel)) ggX5_putRuns_X1_totalRuns
set_option maxRecDepth 20000 in
theorem ggX5_putRuns_X0_put : GoodIn wsX5_putRuns wsX0_put := goodIn_r _ [19, 20, 21, 22, 23, 24, 25, 26, 27, 28, 29, 30, 31, 32, 33, 34, 35, 36, 37, 38, 39, 40, 41, 67, 68] rfl (by decide +kernel)
set_option maxRecDepth 20000 in
theorem gX5_putRuns_X0_put : GoodIn wsX5_putRuns (wsV RX5 38 RX0 yX0_put wsX0_put) := goodIn_app (goodIn_of _ (by decide +kernel)) ggX5_putRuns_X0_put
set_option maxRecDepth 20000 in
theorem ggX5_putRuns_X1_firstIn : GoodIn wsX5_putRuns wsX1_firstIn := goodIn_r _ [45, 46, 47, 48, 4, 49, 6, 7, 50, 51, 52, 10, 53, 54, 55, 56, 57, 58, 63, 64, 65, 66] rfl (by decide +kernel)
set_option maxRecDepth 20000 in
theorem gX5_putRuns_X1_firstIn : GoodIn wsX5_putRuns (wsV RX5 98 RX1 yX1_firstIn wsX1_firstIn) := goodIn_app (goodIn_of _ (by decide +kernel)) ggX5_putRuns_X1_firstIn
set_option maxRecDepth 20000 in
theorem ggX5_putRuns_X1_firstOut : GoodIn wsX5_putRuns wsX1_firstOut := goodIn_r _ [62, 7, 46, 47, 48, 4, 49, 6, 50, 51, 52, 10, 53, 54, 55, 56, 57, 58, 63, 64, 65, 66] rfl (by decide +kernel)
set_option maxRecDepth 20000 in
theorem gX5_putRuns_X1_firstOut : GoodIn wsX5_putRuns (wsV RX5 101 RX1 yX1_firstOut wsX1_firstOut) := goodIn_app (goodIn_of _ (by decide +kernel)) ggX5_putRuns_X1_firstOut
theorem dX5_putRuns_0 : decode cX5_putRuns 0 = .ok (.aload_n 0, 1) := by decide +kernel
theorem dX5_putRuns_1 : decode cX5_putRuns 1 = .ok (.invokevirtual 68, 3) := by decide +kernel
theorem dX5_putRuns_4 : decode cX5_putRuns 4 = .ok (.istore_n 2, 1) := by decide +kernel
theorem dX5_putRuns_5 : decode cX5_putRuns 5 = .ok (.aload_n 1, 1) := by decide +kernel
theorem dX5_putRuns_6 : decode cX5_putRuns 6 = .ok (.iload_n 2, 1) := by decide +kernel
theorem dX5_putRuns_7 : decode cX5_putRuns 7 = .ok (.i2l, 1) := by decide +kernel
theorem dX5_putRuns_8 : decode cX5_putRuns 8 = .ok (.iconst 2, 1) := by decide +kernel
theorem dX5_putRuns_9 : decode cX5_putRuns 9 = .ok (.invokevirtual 38, 3) := by decide +kernel
theorem dX5_putRuns_12 : decode cX5_putRuns 12 = .ok (.aload_n 0, 1) := by decide +kernel
theorem dX5_putRuns_13 : decode cX5_putRuns 13 = .ok (.iconst 0, 1) := by decide +kernel
theorem dX5_putRuns_14 : decode cX5_putRuns 14 = .ok (.invokevirtual 98, 3) := by decide +kernel
theorem dX5_putRuns_17 : decode cX5_putRuns 17 = .ok (.istore_n 3, 1) := by decide +kernel
theorem dX5_putRuns_18 : decode cX5_putRuns 18 = .ok (.iconst 0, 1) := by decide +kernel
theorem dX5_putRuns_19 : decode cX5_putRuns 19 = .ok (.istore 4, 2) := by decide +kernel
theorem dX5_putRuns_21 : decode cX5_putRuns 21 = .ok (.iload 4, 2) := by decide +kernel
theorem dX5_putRuns_23 : decode cX5_putRuns 23 = .ok (.iload_n 2, 1) := by decide +kernel
theorem dX5_putRuns_24 : decode cX5_putRuns 24 = .ok (.if_icmp .ge 42, 3) := by decide +kernel
theorem dX5_putRuns_27 : decode cX5_putRuns 27 = .ok (.aload_n 0, 1) := by decide +kernel
theorem dX5_putRuns_28 : decode cX5_putRuns 28 = .ok (.iload_n 3, 1) := by decide +kernel
theorem dX5_putRuns_29 : decode cX5_putRuns 29 = .ok (.invokevirtual 101, 3) := by decide +kernel
theorem dX5_putRuns_32 : decode cX5_putRuns 32 = .ok (.istore 5, 2) := by decide +kernel
theorem dX5_putRuns_34 : decode cX5_putRuns 34 = .ok (.aload_n 1, 1) := by decide +kernel
theorem dX5_putRuns_35 : decode cX5_putRuns 35 = .ok (.iload_n 3, 1) := by decide +kernel
theorem dX5_putRuns_36 : decode cX5_putRuns 36 = .ok (.i2l, 1) := by decide +kernel
theorem dX5_putRuns_37 : decode cX5_putRuns 37 = .ok (.iconst 2, 1) := by decide +kernel
theorem dX5_putRuns_38 : decode cX5_putRuns 38 = .ok (.invokevirtual 38, 3) := by decide +kernel
theorem dX5_putRuns_41 : decode cX5_putRuns 41 = .ok (.aload_n 1, 1) := by decide +kernel
theorem dX5_putRuns_42 : decode cX5_putRuns 42 = .ok (.iload 5, 2) := by decide +kernel
theorem dX5_putRuns_44 : decode cX5_putRuns 44 = .ok (.iload_n 3, 1) := by decide +kernel
theorem dX5_putRuns_45 : decode cX5_putRuns 45 = .ok (.isub, 1) := by decide +kernel
theorem dX5_putRuns_46 : decode cX5_putRuns 46 = .ok (.iconst 1, 1) := by decide +kernel
theorem dX5_putRuns_47 : decode cX5_putRuns 47 = .ok (.isub, 1) := by decide +kernel
theorem dX5_putRuns_48 : decode cX5_putRuns 48 = .ok (.i2l, 1) := by decide +kernel
theorem dX5_putRuns_49 : decode cX5_putRuns 49 = .ok (.iconst 2, 1) := by decide +kernel
theorem dX5_putRuns_50 : decode cX5_putRuns 50 = .ok (.invokevirtual 38, 3) := by decide +kernel
theorem dX5_putRuns_53 : decode cX5_putRuns 53 = .ok (.aload_n 0, 1) := by decide +kernel
theorem dX5_putRuns_54 : decode cX5_putRuns 54 = .ok (.iload 5, 2) := by decide +kernel
theorem dX5_putRuns_56 : decode cX5_putRuns 56 = .ok (.invokevirtual 98, 3) := by decide +kernel
theorem dX5_putRuns_59 : decode cX5_putRuns 59 = .ok (.istore_n 3, 1) := by decide +kernel
theorem dX5_putRuns_60 : decode cX5_putRuns 60 = .ok (.iinc 4 1, 3) := by decide +kernel
theorem dX5_putRuns_63 : decode cX5_putRuns 63 = .ok (.goto (-42), 3) := by decide +kernel
theorem dX5_putRuns_66 : decode cX5_putRuns 66 = .ok (.return_, 1) := by decide +kernel
set_option maxRecDepth 20000 in
theorem ggX6_init_X2_init : GoodIn wsX6_init wsX2_init := goodIn_r _ [24, 25, 2, 3, 26, 27, 28, 29, 30, 31, 32, 33, 58, 59, 74, 75, 76, 77] rfl (by decide +kernel)
set_option maxRecDepth 20000 in
theorem gX6_init_X2_init : GoodIn wsX6_init (wsX2_init) := ggX6_init_X2_init
set_option maxRecDepth 20000 in
theorem ggX6_init_X3_init : GoodIn wsX6_init wsX3_init := goodIn_r _ [36, 37, 2, 3, 38, 39, 6, 7, 40, 23, 24, 25, 26, 27, 28, 29, 30, 31, 32, 33, 60, 61, 58, 59, 74, 75, 76, 77] rfl (by decide +kernel)
set_option maxRecDepth 20000 in
theorem gX6_init_X3_init : GoodIn wsX6_init (wsX3_init) := ggX6_init_X3_init
set_option maxRecDepth 20000 in
theorem ggX6_init_X0_init : GoodIn wsX6_init wsX0_init := goodIn_r _ [42, 43, 2, 3, 44, 45, 62, 63] rfl (by decide +kernel)
set_option maxRecDepth 20000 in
theorem gX6_init_X0_init_n29 : GoodIn wsX6_init (wsX0_init) := ggX6_init_X0_init
set_option maxRecDepth 20000 in
theorem ggX6_init_X4_init : GoodIn wsX6_init wsX4_init := goodIn_r _ [47, 48, 2, 3, 49, 50, 51, 64, 65, 66, 67, 68, 69, 70, 71, 72, 73] rfl (by decide +kernel)
set_option maxRecDepth 20000 in
theorem gX6_init_X4_init_n36 : GoodIn wsX6_init (wsX4_init) := ggX6_init_X4_init
