theorem dX6_init_0 : decode cX6_init 0 = .ok (.aload_n 0, 1) := by decide +kernel
theorem dX6_init_1 : decode cX6_init 1 = .ok (.invokespecial 1, 3) := by decide +kernel
theorem dX6_init_4 : decode cX6_init 4 = .ok (.aload_n 0, 1) := by decide +kernel
theorem dX6_init_5 : decode cX6_init 5 = .ok (.bipush 8, 2) := by decide +kernel
theorem dX6_init_7 : decode cX6_init 7 = .ok (.anewarray 9, 3) := by decide +kernel
theorem dX6_init_10 : decode cX6_init 10 = .ok (.putfield 11, 3) := by decide +kernel
theorem dX6_init_13 : decode cX6_init 13 = .ok (.aload_n 0, 1) := by decide +kernel
theorem dX6_init_14 : decode cX6_init 14 = .ok (.new 9, 3) := by decide +kernel
theorem dX6_init_17 : decode cX6_init 17 = .ok (.dup, 1) := by decide +kernel
theorem dX6_init_18 : decode cX6_init 18 = .ok (.invokespecial 15, 3) := by decide +kernel
theorem dX6_init_21 : decode cX6_init 21 = .ok (.putfield 16, 3) := by decide +kernel
theorem dX6_init_24 : decode cX6_init 24 = .ok (.aload_n 0, 1) := by decide +kernel
theorem dX6_init_25 : decode cX6_init 25 = .ok (.new 20, 3) := by decide +kernel
theorem dX6_init_28 : decode cX6_init 28 = .ok (.dup, 1) := by decide +kernel
theorem dX6_init_29 : decode cX6_init 29 = .ok (.invokespecial 22, 3) := by decide +kernel
theorem dX6_init_32 : decode cX6_init 32 = .ok (.putfield 23, 3) := by decide +kernel
theorem dX6_init_35 : decode cX6_init 35 = .ok (.aload_n 0, 1) := by decide +kernel
theorem dX6_init_36 : decode cX6_init 36 = .ok (.new 27, 3) := by decide +kernel
theorem dX6_init_39 : decode cX6_init 39 = .ok (.dup, 1) := by decide +kernel
theorem dX6_init_40 : decode cX6_init 40 = .ok (.invokespecial 29, 3) := by decide +kernel
theorem dX6_init_43 : decode cX6_init 43 = .ok (.putfield 30, 3) := by decide +kernel
theorem dX6_init_46 : decode cX6_init 46 = .ok (.aload_n 0, 1) := by decide +kernel
theorem dX6_init_47 : decode cX6_init 47 = .ok (.new 34, 3) := by decide +kernel
theorem dX6_init_50 : decode cX6_init 50 = .ok (.dup, 1) := by decide +kernel
theorem dX6_init_51 : decode cX6_init 51 = .ok (.invokespecial 36, 3) := by decide +kernel
theorem dX6_init_54 : decode cX6_init 54 = .ok (.putfield 37, 3) := by decide +kernel
theorem dX6_init_57 : decode cX6_init 57 = .ok (.aload_n 0, 1) := by decide +kernel
theorem dX6_init_58 : decode cX6_init 58 = .ok (.sipush 300, 3) := by decide +kernel
theorem dX6_init_61 : decode cX6_init 61 = .ok (.putfield 41, 3) := by decide +kernel
theorem dX6_init_64 : decode cX6_init 64 = .ok (.iconst 0, 1) := by decide +kernel
theorem dX6_init_65 : decode cX6_init 65 = .ok (.istore_n 1, 1) := by decide +kernel
theorem dX6_init_66 : decode cX6_init 66 = .ok (.iload_n 1, 1) := by decide +kernel
theorem dX6_init_67 : decode cX6_init 67 = .ok (.bipush 8, 2) := by decide +kernel
theorem dX6_init_69 : decode cX6_init 69 = .ok (.if_icmp .ge 22, 3) := by decide +kernel
theorem dX6_init_72 : decode cX6_init 72 = .ok (.aload_n 0, 1) := by decide +kernel
theorem dX6_init_73 : decode cX6_init 73 = .ok (.getfield 11, 3) := by decide +kernel
theorem dX6_init_76 : decode cX6_init 76 = .ok (.iload_n 1, 1) := by decide +kernel
theorem dX6_init_77 : decode cX6_init 77 = .ok (.new 9, 3) := by decide +kernel
theorem dX6_init_80 : decode cX6_init 80 = .ok (.dup, 1) := by decide +kernel
theorem dX6_init_81 : decode cX6_init 81 = .ok (.invokespecial 15, 3) := by decide +kernel
theorem dX6_init_84 : decode cX6_init 84 = .ok (.aastore, 1) := by decide +kernel
theorem dX6_init_85 : decode cX6_init 85 = .ok (.iinc 1 1, 3) := by decide +kernel
theorem dX6_init_88 : decode cX6_init 88 = .ok (.goto (-22), 3) := by decide +kernel
theorem dX6_init_91 : decode cX6_init 91 = .ok (.return_, 1) := by decide +kernel
set_option maxRecDepth 20000 in
theorem ggX6_add_X6_isNoSet : GoodIn wsX6_add wsX6_isNoSet := goodIn_r _ [5] rfl (by decide +kernel)
set_option maxRecDepth 20000 in
theorem gX6_add_X6_isNoSet : GoodIn wsX6_add (va_wsS RX6 45 yX6_isNoSet wsX6_isNoSet) := goodIn_app (goodIn_of _ (by decide +kernel)) ggX6_add_X6_isNoSet
set_option maxRecDepth 20000 in
theorem ggX6_add_X6_keyOf : GoodIn wsX6_add wsX6_keyOf := goodIn_r _ [8] rfl (by decide +kernel)
set_option maxRecDepth 20000 in
theorem gX6_add_X6_keyOf : GoodIn wsX6_add (va_wsS RX6 49 yX6_keyOf wsX6_keyOf) := goodIn_app (goodIn_of _ (by decide +kernel)) ggX6_add_X6_keyOf
set_option maxRecDepth 20000 in
theorem ggX6_add_X6_lowOf : GoodIn wsX6_add wsX6_lowOf := goodIn_r _ [11, 12] rfl (by decide +kernel)
set_option maxRecDepth 20000 in
theorem gX6_add_X6_lowOf : GoodIn wsX6_add (va_wsS RX6 53 yX6_lowOf wsX6_lowOf) := goodIn_app (goodIn_of _ (by decide +kernel)) ggX6_add_X6_lowOf
set_option maxRecDepth 20000 in
theorem ggX6_add_X2_changeSpan : GoodIn wsX6_add wsX2_changeSpan := goodIn_r _ [17, 18, 19, 20, 16, 21, 22, 23, 24, 25, 26, 27, 28, 29, 30, 31, 32, 33, 34, 35, 36, 37, 38, 39, 40, 41, 42, 43, 44, 45, 46, 47, 48, 49, 50, 51, 52, 53, 54, 55, 56, 57, 58, 59, 60, 61, 62, 63, 64, 65, 66, 67, 68, 69, 70, 71, 72, 73, 74, 75, 76, 77, 78, 79, 80, 81, 82, 83, 90, 91, 92, 93, 94, 95] rfl (by decide +kernel)
set_option maxRecDepth 20000 in
theorem gX6_add_X2_changeSpan : GoodIn wsX6_add (wsV RX6 56 RX2 yX2_changeSpan wsX2_changeSpan) := goodIn_app (goodIn_of _ (by decide +kernel)) ggX6_add_X2_changeSpan
theorem dX6_add_0 : decode cX6_add 0 = .ok (.iload_n 1, 1) := by decide +kernel
theorem dX6_add_1 : decode cX6_add 1 = .ok (.invokestatic 45, 3) := by decide +kernel
theorem dX6_add_4 : decode cX6_add 4 = .ok (.ifCond .eq 8, 3) := by decide +kernel
theorem dX6_add_7 : decode cX6_add 7 = .ok (.bipush (-2), 2) := by decide +kernel
theorem dX6_add_9 : decode cX6_add 9 = .ok (.goto 25, 3) := by decide +kernel
theorem dX6_add_12 : decode cX6_add 12 = .ok (.aload_n 0, 1) := by decide +kernel
theorem dX6_add_13 : decode cX6_add 13 = .ok (.getfield 11, 3) := by decide +kernel
theorem dX6_add_16 : decode cX6_add 16 = .ok (.iload_n 1, 1) := by decide +kernel
theorem dX6_add_17 : decode cX6_add 17 = .ok (.aaload, 1) := by decide +kernel
theorem dX6_add_18 : decode cX6_add 18 = .ok (.iload_n 2, 1) := by decide +kernel
theorem dX6_add_19 : decode cX6_add 19 = .ok (.invokestatic 49, 3) := by decide +kernel
theorem dX6_add_22 : decode cX6_add 22 = .ok (.iload_n 2, 1) := by decide +kernel
theorem dX6_add_23 : decode cX6_add 23 = .ok (.invokestatic 53, 3) := by decide +kernel
theorem dX6_add_26 : decode cX6_add 26 = .ok (.iload_n 2, 1) := by decide +kernel
theorem dX6_add_27 : decode cX6_add 27 = .ok (.invokestatic 53, 3) := by decide +kernel
theorem dX6_add_30 : decode cX6_add 30 = .ok (.iconst 0, 1) := by decide +kernel
theorem dX6_add_31 : decode cX6_add 31 = .ok (.invokevirtual 56, 3) := by decide +kernel
theorem dX6_add_34 : decode cX6_add 34 = .ok (.ireturn, 1) := by decide +kernel
set_option maxRecDepth 20000 in
theorem ggX6_remove_X6_isNoSet : GoodIn wsX6_remove wsX6_isNoSet := goodIn_r _ [5] rfl (by decide +kernel)
set_option maxRecDepth 20000 in
theorem gX6_remove_X6_isNoSet : GoodIn wsX6_remove (va_wsS RX6 45 yX6_isNoSet wsX6_isNoSet) := goodIn_app (goodIn_of _ (by decide +kernel)) ggX6_remove_X6_isNoSet
set_option maxRecDepth 20000 in
theorem ggX6_remove_X6_keyOf : GoodIn wsX6_remove wsX6_keyOf := goodIn_r _ [8] rfl (by decide +kernel)
set_option maxRecDepth 20000 in
theorem gX6_remove_X6_keyOf : GoodIn wsX6_remove (va_wsS RX6 49 yX6_keyOf wsX6_keyOf) := goodIn_app (goodIn_of _ (by decide +kernel)) ggX6_remove_X6_keyOf
set_option maxRecDepth 20000 in
theorem ggX6_remove_X6_lowOf : GoodIn wsX6_remove wsX6_lowOf := goodIn_r _ [11, 12] rfl (by decide +kernel)
set_option maxRecDepth 20000 in
theorem gX6_remove_X6_lowOf : GoodIn wsX6_remove (va_wsS RX6 53 yX6_lowOf wsX6_lowOf) := goodIn_app (goodIn_of _ (by decide +kernel)) ggX6_remove_X6_lowOf
set_option maxRecDepth 20000 in
theorem ggX6_remove_X2_changeSpan : GoodIn wsX6_remove wsX2_changeSpan := goodIn_r _ [17, 18, 19, 20, 16, 21, 22, 23, 24, 25, 26, 27, 28, 29, 30, 31, 32, 33, 34, 35, 36, 37, 38, 39, 40, 41, 42, 43, 44, 45, 46, 47, 48, 49, 50, 51, 52, 53, 54, 55, 56, 57, 58, 59, 60, 61, 62, 63, 64, 65, 66, 67, 68, 69, 70, 71, 72, 73, 74, 75, 76, 77, 78, 79, 80, 81, 82, 83, 90, 91, 92, 93, 94, 95] rfl (by decide +kernel)
set_option maxRecDepth 20000 in
theorem gX6_remove_X2_changeSpan : GoodIn wsX6_remove (wsV RX6 56 RX2 yX2_changeSpan wsX2_changeSpan) := goodIn_app (goodIn_of _ (by decide +kernel)) ggX6_remove_X2_changeSpan
theorem dX6_remove_0 : decode cX6_remove 0 = .ok (.iload_n 1, 1) := by decide +kernel
theorem dX6_remove_1 : decode cX6_remove 1 = .ok (.invokestatic 45, 3) := by decide +kernel
theorem dX6_remove_4 : decode cX6_remove 4 = .ok (.ifCond .eq 8, 3) := by decide +kernel
theorem dX6_remove_7 : decode cX6_remove 7 = .ok (.bipush (-2), 2) := by decide +kernel
theorem dX6_remove_9 : decode cX6_remove 9 = .ok (.goto 25, 3) := by decide +kernel
theorem dX6_remove_12 : decode cX6_remove 12 = .ok (.aload_n 0, 1) := by decide +kernel
theorem dX6_remove_13 : decode cX6_remove 13 = .ok (.getfield 11, 3) := by decide +kernel
theorem dX6_remove_16 : decode cX6_remove 16 = .ok (.iload_n 1, 1) := by decide +kernel
theorem dX6_remove_17 : decode cX6_remove 17 = .ok (.aaload, 1) := by decide +kernel
theorem dX6_remove_18 : decode cX6_remove 18 = .ok (.iload_n 2, 1) := by decide +kernel
theorem dX6_remove_19 : decode cX6_remove 19 = .ok (.invokestatic 49, 3) := by decide +kernel
theorem dX6_remove_22 : decode cX6_remove 22 = .ok (.iload_n 2, 1) := by decide +kernel
theorem dX6_remove_23 : decode cX6_remove 23 = .ok (.invokestatic 53, 3) := by decide +kernel
theorem dX6_remove_26 : decode cX6_remove 26 = .ok (.iload_n 2, 1) := by decide +kernel
theorem dX6_remove_27 : decode cX6_remove 27 = .ok (.invokestatic 53, 3) := by decide +kernel
theorem dX6_remove_30 : decode cX6_remove 30 = .ok (.iconst 1, 1) := by decide +kernel
theorem dX6_remove_31 : decode cX6_remove 31 = .ok (.invokevirtual 56, 3) := by decide +kernel
theorem dX6_remove_34 : decode cX6_remove 34 = .ok (.ireturn, 1) := by decide +kernel
set_option maxRecDepth 20000 in
theorem ggX6_range_X6_isNoSet : GoodIn wsX6_range wsX6_isNoSet := goodIn_r _ [5] rfl (by decide +kernel)
set_option maxRecDepth 20000 in
theorem gX6_range_X6_isNoSet : GoodIn wsX6_range (va_wsS RX6 45 yX6_isNoSet wsX6_isNoSet) := goodIn_app (goodIn_of _ (by decide +kernel)) ggX6_range_X6_isNoSet
set_option maxRecDepth 20000 in
theorem ggX6_range_X6_isNoHalf : GoodIn wsX6_range wsX6_isNoHalf := goodIn_r _ [8, 9] rfl (by decide +kernel)
set_option maxRecDepth 20000 in
theorem gX6_range_X6_isNoHalf : GoodIn wsX6_range (va_wsS RX6 60 yX6_isNoHalf wsX6_isNoHalf) := goodIn_app (goodIn_of _ (by decide +kernel)) ggX6_range_X6_isNoHalf
set_option maxRecDepth 20000 in
theorem ggX6_range_X2_changeSpan : GoodIn wsX6_range wsX2_changeSpan := goodIn_r _ [14, 15, 16, 17, 13, 18, 19, 20, 21, 22, 23, 24, 25, 26, 27, 28, 29, 30, 31, 32, 33, 34, 35, 36, 37, 38, 39, 40, 41, 42, 43, 44, 45, 46, 47, 48, 49, 50, 51, 52, 53, 54, 55, 56, 57, 58, 59, 60, 61, 62, 63, 64, 65, 66, 67, 68, 69, 70, 71, 72, 73, 74, 75, 76, 77, 78, 79, 80, 91, 92, 93, 94, 95, 96] rfl (by decide +kernel)
set_option maxRecDepth 20000 in
theorem gX6_range_X2_changeSpan : GoodIn wsX6_range (wsV RX6 56 RX2 yX2_changeSpan wsX2_changeSpan) := goodIn_app (goodIn_of _ (by decide +kernel)) ggX6_range_X2_changeSpan
set_option maxRecDepth 20000 in
theorem ggX6_range_X2_total : GoodIn wsX6_range wsX2_total := goodIn_r _ [84, 24, 19, 72, 91, 92, 93, 94, 95, 96] rfl (by decide +kernel)
set_option maxRecDepth 20000 in
theorem gX6_range_X2_total : GoodIn wsX6_range (wsV RX6 63 RX2 yX2_total wsX2_total) := goodIn_app (goodIn_of _ (by decide +kernel)) ggX6_range_X2_total
theorem dX6_range_0 : decode cX6_range 0 = .ok (.iload_n 1, 1) := by decide +kernel
theorem dX6_range_1 : decode cX6_range 1 = .ok (.invokestatic 45, 3) := by decide +kernel
theorem dX6_range_4 : decode cX6_range 4 = .ok (.ifCond .ne 31, 3) := by decide +kernel
theorem dX6_range_7 : decode cX6_range 7 = .ok (.iload_n 2, 1) := by decide +kernel
theorem dX6_range_8 : decode cX6_range 8 = .ok (.invokestatic 60, 3) := by decide +kernel
theorem dX6_range_11 : decode cX6_range 11 = .ok (.ifCond .ne 24, 3) := by decide +kernel
theorem dX6_range_14 : decode cX6_range 14 = .ok (.iload_n 3, 1) := by decide +kernel
theorem dX6_range_15 : decode cX6_range 15 = .ok (.invokestatic 60, 3) := by decide +kernel
theorem dX6_range_18 : decode cX6_range 18 = .ok (.ifCond .ne 17, 3) := by decide +kernel
theorem dX6_range_21 : decode cX6_range 21 = .ok (.iload 4, 2) := by decide +kernel
theorem dX6_range_23 : decode cX6_range 23 = .ok (.invokestatic 60, 3) := by decide +kernel
theorem dX6_range_26 : decode cX6_range 26 = .ok (.ifCond .ne 9, 3) := by decide +kernel
theorem dX6_range_29 : decode cX6_range 29 = .ok (.iload_n 3, 1) := by decide +kernel
theorem dX6_range_30 : decode cX6_range 30 = .ok (.iload 4, 2) := by decide +kernel
theorem dX6_range_32 : decode cX6_range 32 = .ok (.if_icmp .le 6, 3) := by decide +kernel
theorem dX6_range_35 : decode cX6_range 35 = .ok (.bipush (-2), 2) := by decide +kernel
theorem dX6_range_37 : decode cX6_range 37 = .ok (.ireturn, 1) := by decide +kernel
theorem dX6_range_38 : decode cX6_range 38 = .ok (.iload 5, 2) := by decide +kernel
theorem dX6_range_40 : decode cX6_range 40 = .ok (.ifCond .lt 9, 3) := by decide +kernel
theorem dX6_range_43 : decode cX6_range 43 = .ok (.iload 5, 2) := by decide +kernel
theorem dX6_range_45 : decode cX6_range 45 = .ok (.iconst 2, 1) := by decide +kernel
theorem dX6_range_46 : decode cX6_range 46 = .ok (.if_icmp .le 6, 3) := by decide +kernel
theorem dX6_range_49 : decode cX6_range 49 = .ok (.bipush (-2), 2) := by decide +kernel
theorem dX6_range_51 : decode cX6_range 51 = .ok (.ireturn, 1) := by decide +kernel
theorem dX6_range_52 : decode cX6_range 52 = .ok (.aload_n 0, 1) := by decide +kernel
theorem dX6_range_53 : decode cX6_range 53 = .ok (.getfield 11, 3) := by decide +kernel
theorem dX6_range_56 : decode cX6_range 56 = .ok (.iload_n 1, 1) := by decide +kernel
theorem dX6_range_57 : decode cX6_range 57 = .ok (.aaload, 1) := by decide +kernel
theorem dX6_range_58 : decode cX6_range 58 = .ok (.iload_n 2, 1) := by decide +kernel
theorem dX6_range_59 : decode cX6_range 59 = .ok (.iload_n 3, 1) := by decide +kernel
theorem dX6_range_60 : decode cX6_range 60 = .ok (.iload 4, 2) := by decide +kernel
theorem dX6_range_62 : decode cX6_range 62 = .ok (.iload 5, 2) := by decide +kernel
theorem dX6_range_64 : decode cX6_range 64 = .ok (.invokevirtual 56, 3) := by decide +kernel
theorem dX6_range_67 : decode cX6_range 67 = .ok (.istore 6, 2) := by decide +kernel
theorem dX6_range_69 : decode cX6_range 69 = .ok (.iload 6, 2) := by decide +kernel
theorem dX6_range_71 : decode cX6_range 71 = .ok (.bipush (-3), 2) := by decide +kernel
theorem dX6_range_73 : decode cX6_range 73 = .ok (.if_icmp .ne 8, 3) := by decide +kernel
theorem dX6_range_76 : decode cX6_range 76 = .ok (.bipush (-3), 2) := by decide +kernel
theorem dX6_range_78 : decode cX6_range 78 = .ok (.goto 12, 3) := by decide +kernel
theorem dX6_range_81 : decode cX6_range 81 = .ok (.aload_n 0, 1) := by decide +kernel
theorem dX6_range_82 : decode cX6_range 82 = .ok (.getfield 11, 3) := by decide +kernel
theorem dX6_range_85 : decode cX6_range 85 = .ok (.iload_n 1, 1) := by decide +kernel
theorem dX6_range_86 : decode cX6_range 86 = .ok (.aaload, 1) := by decide +kernel
theorem dX6_range_87 : decode cX6_range 87 = .ok (.invokevirtual 63, 3) := by decide +kernel
theorem dX6_range_90 : decode cX6_range 90 = .ok (.ireturn, 1) := by decide +kernel
set_option maxRecDepth 20000 in
theorem ggX6_steps_X6_isNoSet : GoodIn wsX6_steps wsX6_isNoSet := goodIn_r _ [5] rfl (by decide +kernel)
set_option maxRecDepth 20000 in
theorem gX6_steps_X6_isNoSet : GoodIn wsX6_steps (va_wsS RX6 45 yX6_isNoSet wsX6_isNoSet) := goodIn_app (goodIn_of _ (by decide +kernel)) ggX6_steps_X6_isNoSet
set_option maxRecDepth 20000 in
theorem ggX6_steps_X6_isNoHalf : GoodIn wsX6_steps wsX6_isNoHalf := goodIn_r _ [8, 9] rfl (by decide +kernel)
set_option maxRecDepth 20000 in
theorem gX6_steps_X6_isNoHalf : GoodIn wsX6_steps (va_wsS RX6 60 yX6_isNoHalf wsX6_isNoHalf) := goodIn_app (goodIn_of _ (by decide +kernel)) ggX6_steps_X6_isNoHalf
set_option maxRecDepth 20000 in
theorem ggX6_steps_X2_putSteps : GoodIn wsX6_steps wsX2_putSteps := goodIn_r _ [14, 15, 16, 17, 13, 18, 19, 20, 21, 22, 23, 24, 25, 26, 27, 28, 29, 30, 31, 32, 33, 34, 35, 36, 37, 38, 39, 40, 41, 42, 43, 44, 45, 46, 47, 48, 49, 50, 51, 52, 53, 54, 55, 56, 57, 58, 59, 60, 61, 62, 63, 64, 65, 66, 67, 68, 69, 70, 81, 82, 83, 84, 85, 86] rfl (by decide +kernel)
set_option maxRecDepth 20000 in
theorem gX6_steps_X2_putSteps : GoodIn wsX6_steps (wsV RX6 67 RX2 yX2_putSteps wsX2_putSteps) := goodIn_app (goodIn_of _ (by decide +kernel)) ggX6_steps_X2_putSteps
set_option maxRecDepth 20000 in
theorem ggX6_steps_X2_total : GoodIn wsX6_steps wsX2_total := goodIn_r _ [74, 20, 19, 62, 81, 82, 83, 84, 85, 86] rfl (by decide +kernel)
set_option maxRecDepth 20000 in
theorem gX6_steps_X2_total : GoodIn wsX6_steps (wsV RX6 63 RX2 yX2_total wsX2_total) := goodIn_app (goodIn_of _ (by decide +kernel)) ggX6_steps_X2_total
theorem dX6_steps_0 : decode cX6_steps 0 = .ok (.iload_n 1, 1) := by decide +kernel
theorem dX6_steps_1 : decode cX6_steps 1 = .ok (.invokestatic 45, 3) := by decide +kernel
theorem dX6_steps_4 : decode cX6_steps 4 = .ok (.ifCond .ne 31, 3) := by decide +kernel
theorem dX6_steps_7 : decode cX6_steps 7 = .ok (.iload_n 2, 1) := by decide +kernel
theorem dX6_steps_8 : decode cX6_steps 8 = .ok (.invokestatic 60, 3) := by decide +kernel
theorem dX6_steps_11 : decode cX6_steps 11 = .ok (.ifCond .ne 24, 3) := by decide +kernel
theorem dX6_steps_14 : decode cX6_steps 14 = .ok (.iload_n 3, 1) := by decide +kernel
theorem dX6_steps_15 : decode cX6_steps 15 = .ok (.invokestatic 60, 3) := by decide +kernel
theorem dX6_steps_18 : decode cX6_steps 18 = .ok (.ifCond .ne 17, 3) := by decide +kernel
theorem dX6_steps_21 : decode cX6_steps 21 = .ok (.iload 4, 2) := by decide +kernel
theorem dX6_steps_23 : decode cX6_steps 23 = .ok (.invokestatic 60, 3) := by decide +kernel
theorem dX6_steps_26 : decode cX6_steps 26 = .ok (.ifCond .ne 9, 3) := by decide +kernel
theorem dX6_steps_29 : decode cX6_steps 29 = .ok (.iload 4, 2) := by decide +kernel
theorem dX6_steps_31 : decode cX6_steps 31 = .ok (.iconst 1, 1) := by decide +kernel
theorem dX6_steps_32 : decode cX6_steps 32 = .ok (.if_icmp .ge 6, 3) := by decide +kernel
theorem dX6_steps_35 : decode cX6_steps 35 = .ok (.bipush (-2), 2) := by decide +kernel
theorem dX6_steps_37 : decode cX6_steps 37 = .ok (.ireturn, 1) := by decide +kernel
theorem dX6_steps_38 : decode cX6_steps 38 = .ok (.aload_n 0, 1) := by decide +kernel
theorem dX6_steps_39 : decode cX6_steps 39 = .ok (.getfield 11, 3) := by decide +kernel
theorem dX6_steps_42 : decode cX6_steps 42 = .ok (.iload_n 1, 1) := by decide +kernel
theorem dX6_steps_43 : decode cX6_steps 43 = .ok (.aaload, 1) := by decide +kernel
theorem dX6_steps_44 : decode cX6_steps 44 = .ok (.iload_n 2, 1) := by decide +kernel
theorem dX6_steps_45 : decode cX6_steps 45 = .ok (.iload_n 3, 1) := by decide +kernel
theorem dX6_steps_46 : decode cX6_steps 46 = .ok (.iload 4, 2) := by decide +kernel
theorem dX6_steps_48 : decode cX6_steps 48 = .ok (.invokevirtual 67, 3) := by decide +kernel
theorem dX6_steps_51 : decode cX6_steps 51 = .ok (.istore 5, 2) := by decide +kernel
theorem dX6_steps_53 : decode cX6_steps 53 = .ok (.iload 5, 2) := by decide +kernel
theorem dX6_steps_55 : decode cX6_steps 55 = .ok (.bipush (-3), 2) := by decide +kernel
theorem dX6_steps_57 : decode cX6_steps 57 = .ok (.if_icmp .ne 8, 3) := by decide +kernel
theorem dX6_steps_60 : decode cX6_steps 60 = .ok (.bipush (-3), 2) := by decide +kernel
theorem dX6_steps_62 : decode cX6_steps 62 = .ok (.goto 12, 3) := by decide +kernel
theorem dX6_steps_65 : decode cX6_steps 65 = .ok (.aload_n 0, 1) := by decide +kernel
theorem dX6_steps_66 : decode cX6_steps 66 = .ok (.getfield 11, 3) := by decide +kernel
theorem dX6_steps_69 : decode cX6_steps 69 = .ok (.iload_n 1, 1) := by decide +kernel
theorem dX6_steps_70 : decode cX6_steps 70 = .ok (.aaload, 1) := by decide +kernel
theorem dX6_steps_71 : decode cX6_steps 71 = .ok (.invokevirtual 63, 3) := by decide +kernel
theorem dX6_steps_74 : decode cX6_steps 74 = .ok (.ireturn, 1) := by decide +kernel
set_option maxRecDepth 20000 in
theorem ggX6_clear_X6_isNoSet : GoodIn wsX6_clear wsX6_isNoSet := goodIn_r _ [6] rfl (by decide +kernel)
set_option maxRecDepth 20000 in
theorem gX6_clear_X6_isNoSet : GoodIn wsX6_clear (va_wsS RX6 45 yX6_isNoSet wsX6_isNoSet) := goodIn_app (goodIn_of _ (by decide +kernel)) ggX6_clear_X6_isNoSet
set_option maxRecDepth 20000 in
theorem ggX6_clear_X2_total : GoodIn wsX6_clear wsX2_total := goodIn_r _ [11, 12, 13, 14, 21, 22, 23, 24, 25, 26] rfl (by decide +kernel)
set_option maxRecDepth 20000 in
theorem gX6_clear_X2_total : GoodIn wsX6_clear (wsV RX6 63 RX2 yX2_total wsX2_total) := goodIn_app (goodIn_of _ (by decide +kernel)) ggX6_clear_X2_total
theorem dX6_clear_0 : decode cX6_clear 0 = .ok (.iload_n 1, 1) := by decide +kernel
theorem dX6_clear_1 : decode cX6_clear 1 = .ok (.invokestatic 45, 3) := by decide +kernel
theorem dX6_clear_4 : decode cX6_clear 4 = .ok (.ifCond .eq 6, 3) := by decide +kernel
theorem dX6_clear_7 : decode cX6_clear 7 = .ok (.bipush (-2), 2) := by decide +kernel
theorem dX6_clear_9 : decode cX6_clear 9 = .ok (.ireturn, 1) := by decide +kernel
theorem dX6_clear_10 : decode cX6_clear 10 = .ok (.aload_n 0, 1) := by decide +kernel
theorem dX6_clear_11 : decode cX6_clear 11 = .ok (.getfield 11, 3) := by decide +kernel
theorem dX6_clear_14 : decode cX6_clear 14 = .ok (.iload_n 1, 1) := by decide +kernel
theorem dX6_clear_15 : decode cX6_clear 15 = .ok (.aaload, 1) := by decide +kernel
theorem dX6_clear_16 : decode cX6_clear 16 = .ok (.invokevirtual 63, 3) := by decide +kernel
theorem dX6_clear_19 : decode cX6_clear 19 = .ok (.istore_n 2, 1) := by decide +kernel
theorem dX6_clear_20 : decode cX6_clear 20 = .ok (.aload_n 0, 1) := by decide +kernel
theorem dX6_clear_21 : decode cX6_clear 21 = .ok (.getfield 11, 3) := by decide +kernel
theorem dX6_clear_24 : decode cX6_clear 24 = .ok (.iload_n 1, 1) := by decide +kernel
theorem dX6_clear_25 : decode cX6_clear 25 = .ok (.aaload, 1) := by decide +kernel
theorem dX6_clear_26 : decode cX6_clear 26 = .ok (.iconst 0, 1) := by decide +kernel
theorem dX6_clear_27 : decode cX6_clear 27 = .ok (.putfield 71, 3) := by decide +kernel
theorem dX6_clear_30 : decode cX6_clear 30 = .ok (.iload_n 2, 1) := by decide +kernel
theorem dX6_clear_31 : decode cX6_clear 31 = .ok (.ireturn, 1) := by decide +kernel
set_option maxRecDepth 20000 in
theorem ggX6_join_X6_isNoSet : GoodIn wsX6_join wsX6_isNoSet := goodIn_r _ [6] rfl (by decide +kernel)
set_option maxRecDepth 20000 in
theorem gX6_join_X6_isNoSet : GoodIn wsX6_join (va_wsS RX6 45 yX6_isNoSet wsX6_isNoSet) := goodIn_app (goodIn_of _ (by decide +kernel)) ggX6_join_X6_isNoSet
set_option maxRecDepth 20000 in
theorem ggX6_join_X6_takeWork : GoodIn wsX6_join wsX6_takeWork := goodIn_r _ [10, 11, 79, 80, 81, 82, 83, 84] rfl (by decide +kernel)
set_option maxRecDepth 20000 in
theorem gX6_join_X6_takeWork : GoodIn wsX6_join (wsV RX6 74 RX6 yX6_takeWork wsX6_takeWork) := goodIn_app (goodIn_of _ (by decide +kernel)) ggX6_join_X6_takeWork
set_option maxRecDepth 20000 in
theorem ggX6_join_X2_becomeJoin : GoodIn wsX6_join wsX2_becomeJoin := goodIn_r _ [16, 17, 18, 19, 20, 21, 22, 23, 15, 24, 25, 26, 27, 28, 29, 30, 31, 32, 33, 34, 35, 36, 37, 38, 39, 40, 41, 42, 43, 44, 45, 46, 47, 48, 49, 50, 51, 52, 53, 54, 55, 56, 57, 58, 59, 60, 61, 62, 63, 64, 65, 66, 67, 68, 69, 70, 85, 86, 87, 88, 89, 90] rfl (by decide +kernel)
set_option maxRecDepth 20000 in
theorem gX6_join_X2_becomeJoin : GoodIn wsX6_join (wsV RX6 77 RX2 yX2_becomeJoin wsX2_becomeJoin) := goodIn_app (goodIn_of _ (by decide +kernel)) ggX6_join_X2_becomeJoin
set_option maxRecDepth 20000 in
theorem ggX6_join_X2_exchange : GoodIn wsX6_join wsX2_exchange := goodIn_r _ [74, 19, 17, 85, 86] rfl (by decide +kernel)
set_option maxRecDepth 20000 in
theorem gX6_join_X2_exchange : GoodIn wsX6_join (wsV RX6 81 RX2 yX2_exchange wsX2_exchange) := goodIn_app (goodIn_of _ (by decide +kernel)) ggX6_join_X2_exchange
set_option maxRecDepth 20000 in
theorem ggX6_join_X2_total : GoodIn wsX6_join wsX2_total := goodIn_r _ [78, 17, 19, 20, 85, 86, 87, 88, 89, 90] rfl (by decide +kernel)
set_option maxRecDepth 20000 in
theorem gX6_join_X2_total : GoodIn wsX6_join (wsV RX6 63 RX2 yX2_total wsX2_total) := goodIn_app (goodIn_of _ (by decide +kernel)) ggX6_join_X2_total
theorem dX6_join_0 : decode cX6_join 0 = .ok (.iload_n 1, 1) := by decide +kernel
theorem dX6_join_1 : decode cX6_join 1 = .ok (.invokestatic 45, 3) := by decide +kernel
theorem dX6_join_4 : decode cX6_join 4 = .ok (.ifCond .ne 27, 3) := by decide +kernel
theorem dX6_join_7 : decode cX6_join 7 = .ok (.iload_n 3, 1) := by decide +kernel
theorem dX6_join_8 : decode cX6_join 8 = .ok (.invokestatic 45, 3) := by decide +kernel
theorem dX6_join_11 : decode cX6_join 11 = .ok (.ifCond .ne 20, 3) := by decide +kernel
theorem dX6_join_14 : decode cX6_join 14 = .ok (.iload 4, 2) := by decide +kernel
theorem dX6_join_16 : decode cX6_join 16 = .ok (.invokestatic 45, 3) := by decide +kernel
theorem dX6_join_19 : decode cX6_join 19 = .ok (.ifCond .ne 12, 3) := by decide +kernel
theorem dX6_join_22 : decode cX6_join 22 = .ok (.iload_n 2, 1) := by decide +kernel
theorem dX6_join_23 : decode cX6_join 23 = .ok (.ifCond .lt 8, 3) := by decide +kernel
theorem dX6_join_26 : decode cX6_join 26 = .ok (.iload_n 2, 1) := by decide +kernel
theorem dX6_join_27 : decode cX6_join 27 = .ok (.iconst 3, 1) := by decide +kernel
theorem dX6_join_28 : decode cX6_join 28 = .ok (.if_icmp .le 6, 3) := by decide +kernel
theorem dX6_join_31 : decode cX6_join 31 = .ok (.bipush (-2), 2) := by decide +kernel
theorem dX6_join_33 : decode cX6_join 33 = .ok (.ireturn, 1) := by decide +kernel
theorem dX6_join_34 : decode cX6_join 34 = .ok (.aload_n 0, 1) := by decide +kernel
theorem dX6_join_35 : decode cX6_join 35 = .ok (.iconst 1, 1) := by decide +kernel
theorem dX6_join_36 : decode cX6_join 36 = .ok (.invokevirtual 74, 3) := by decide +kernel
theorem dX6_join_39 : decode cX6_join 39 = .ok (.ifCond .ne 6, 3) := by decide +kernel
theorem dX6_join_42 : decode cX6_join 42 = .ok (.bipush (-5), 2) := by decide +kernel
theorem dX6_join_44 : decode cX6_join 44 = .ok (.ireturn, 1) := by decide +kernel
theorem dX6_join_45 : decode cX6_join 45 = .ok (.aload_n 0, 1) := by decide +kernel
theorem dX6_join_46 : decode cX6_join 46 = .ok (.getfield 16, 3) := by decide +kernel
theorem dX6_join_49 : decode cX6_join 49 = .ok (.iload_n 2, 1) := by decide +kernel
theorem dX6_join_50 : decode cX6_join 50 = .ok (.aload_n 0, 1) := by decide +kernel
theorem dX6_join_51 : decode cX6_join 51 = .ok (.getfield 11, 3) := by decide +kernel
theorem dX6_join_54 : decode cX6_join 54 = .ok (.iload_n 3, 1) := by decide +kernel
theorem dX6_join_55 : decode cX6_join 55 = .ok (.aaload, 1) := by decide +kernel
theorem dX6_join_56 : decode cX6_join 56 = .ok (.aload_n 0, 1) := by decide +kernel
theorem dX6_join_57 : decode cX6_join 57 = .ok (.getfield 11, 3) := by decide +kernel
theorem dX6_join_60 : decode cX6_join 60 = .ok (.iload 4, 2) := by decide +kernel
theorem dX6_join_62 : decode cX6_join 62 = .ok (.aaload, 1) := by decide +kernel
theorem dX6_join_63 : decode cX6_join 63 = .ok (.invokevirtual 77, 3) := by decide +kernel
theorem dX6_join_66 : decode cX6_join 66 = .ok (.ifCond .ne 6, 3) := by decide +kernel
theorem dX6_join_69 : decode cX6_join 69 = .ok (.bipush (-3), 2) := by decide +kernel
theorem dX6_join_71 : decode cX6_join 71 = .ok (.ireturn, 1) := by decide +kernel
theorem dX6_join_72 : decode cX6_join 72 = .ok (.aload_n 0, 1) := by decide +kernel
theorem dX6_join_73 : decode cX6_join 73 = .ok (.getfield 11, 3) := by decide +kernel
theorem dX6_join_76 : decode cX6_join 76 = .ok (.iload_n 1, 1) := by decide +kernel
theorem dX6_join_77 : decode cX6_join 77 = .ok (.aaload, 1) := by decide +kernel
theorem dX6_join_78 : decode cX6_join 78 = .ok (.aload_n 0, 1) := by decide +kernel
theorem dX6_join_79 : decode cX6_join 79 = .ok (.getfield 16, 3) := by decide +kernel
theorem dX6_join_82 : decode cX6_join 82 = .ok (.invokevirtual 81, 3) := by decide +kernel
theorem dX6_join_85 : decode cX6_join 85 = .ok (.aload_n 0, 1) := by decide +kernel
theorem dX6_join_86 : decode cX6_join 86 = .ok (.getfield 11, 3) := by decide +kernel
theorem dX6_join_89 : decode cX6_join 89 = .ok (.iload_n 1, 1) := by decide +kernel
theorem dX6_join_90 : decode cX6_join 90 = .ok (.aaload, 1) := by decide +kernel
theorem dX6_join_91 : decode cX6_join 91 = .ok (.invokevirtual 63, 3) := by decide +kernel
theorem dX6_join_94 : decode cX6_join 94 = .ok (.ireturn, 1) := by decide +kernel
set_option maxRecDepth 20000 in
theorem ggX6_shrink_X6_isNoSet : GoodIn wsX6_shrink wsX6_isNoSet := goodIn_r _ [5] rfl (by decide +kernel)
set_option maxRecDepth 20000 in
theorem gX6_shrink_X6_isNoSet : GoodIn wsX6_shrink (va_wsS RX6 45 yX6_isNoSet wsX6_isNoSet) := goodIn_app (goodIn_of _ (by decide +kernel)) ggX6_shrink_X6_isNoSet
set_option maxRecDepth 20000 in
theorem ggX6_shrink_X6_takeWork : GoodIn wsX6_shrink wsX6_takeWork := goodIn_r _ [9, 10, 47, 48, 49, 50, 51, 52] rfl (by decide +kernel)
set_option maxRecDepth 20000 in
theorem gX6_shrink_X6_takeWork : GoodIn wsX6_shrink (wsV RX6 74 RX6 yX6_takeWork wsX6_takeWork) := goodIn_app (goodIn_of _ (by decide +kernel)) ggX6_shrink_X6_takeWork
set_option maxRecDepth 20000 in
theorem ggX6_shrink_X2_shrinkAll : GoodIn wsX6_shrink wsX2_shrinkAll := goodIn_r _ [15, 16, 17, 18, 19, 20, 21, 22, 23, 24, 25, 26, 27, 28, 29, 30, 31, 32, 33, 34, 35, 36, 37, 38, 39, 40, 41, 53, 54, 55, 56, 57, 58] rfl (by decide +kernel)
set_option maxRecDepth 20000 in
theorem gX6_shrink_X2_shrinkAll : GoodIn wsX6_shrink (wsV RX6 85 RX2 yX2_shrinkAll wsX2_shrinkAll) := goodIn_app (goodIn_of _ (by decide +kernel)) ggX6_shrink_X2_shrinkAll
set_option maxRecDepth 20000 in
theorem ggX6_shrink_X2_totalOfKind : GoodIn wsX6_shrink wsX2_totalOfKind := goodIn_r _ [45, 16, 17, 46, 53, 54, 55, 56, 57, 58] rfl (by decide +kernel)
set_option maxRecDepth 20000 in
theorem gX6_shrink_X2_totalOfKind : GoodIn wsX6_shrink (wsV RX6 88 RX2 yX2_totalOfKind wsX2_totalOfKind) := goodIn_app (goodIn_of _ (by decide +kernel)) ggX6_shrink_X2_totalOfKind
theorem dX6_shrink_0 : decode cX6_shrink 0 = .ok (.iload_n 1, 1) := by decide +kernel
theorem dX6_shrink_1 : decode cX6_shrink 1 = .ok (.invokestatic 45, 3) := by decide +kernel
theorem dX6_shrink_4 : decode cX6_shrink 4 = .ok (.ifCond .eq 6, 3) := by decide +kernel
theorem dX6_shrink_7 : decode cX6_shrink 7 = .ok (.bipush (-2), 2) := by decide +kernel
theorem dX6_shrink_9 : decode cX6_shrink 9 = .ok (.ireturn, 1) := by decide +kernel
theorem dX6_shrink_10 : decode cX6_shrink 10 = .ok (.aload_n 0, 1) := by decide +kernel
theorem dX6_shrink_11 : decode cX6_shrink 11 = .ok (.iconst 1, 1) := by decide +kernel
theorem dX6_shrink_12 : decode cX6_shrink 12 = .ok (.invokevirtual 74, 3) := by decide +kernel
theorem dX6_shrink_15 : decode cX6_shrink 15 = .ok (.ifCond .ne 6, 3) := by decide +kernel
theorem dX6_shrink_18 : decode cX6_shrink 18 = .ok (.bipush (-5), 2) := by decide +kernel
theorem dX6_shrink_20 : decode cX6_shrink 20 = .ok (.ireturn, 1) := by decide +kernel
theorem dX6_shrink_21 : decode cX6_shrink 21 = .ok (.aload_n 0, 1) := by decide +kernel
theorem dX6_shrink_22 : decode cX6_shrink 22 = .ok (.getfield 11, 3) := by decide +kernel
theorem dX6_shrink_25 : decode cX6_shrink 25 = .ok (.iload_n 1, 1) := by decide +kernel
theorem dX6_shrink_26 : decode cX6_shrink 26 = .ok (.aaload, 1) := by decide +kernel
theorem dX6_shrink_27 : decode cX6_shrink 27 = .ok (.invokevirtual 85, 3) := by decide +kernel
theorem dX6_shrink_30 : decode cX6_shrink 30 = .ok (.aload_n 0, 1) := by decide +kernel
theorem dX6_shrink_31 : decode cX6_shrink 31 = .ok (.getfield 11, 3) := by decide +kernel
theorem dX6_shrink_34 : decode cX6_shrink 34 = .ok (.iload_n 1, 1) := by decide +kernel
theorem dX6_shrink_35 : decode cX6_shrink 35 = .ok (.aaload, 1) := by decide +kernel
theorem dX6_shrink_36 : decode cX6_shrink 36 = .ok (.iconst 2, 1) := by decide +kernel
theorem dX6_shrink_37 : decode cX6_shrink 37 = .ok (.invokevirtual 88, 3) := by decide +kernel
theorem dX6_shrink_40 : decode cX6_shrink 40 = .ok (.ireturn, 1) := by decide +kernel
set_option maxRecDepth 20000 in
theorem ggX6_formula_X6_isNoSet : GoodIn wsX6_formula wsX6_isNoSet := goodIn_r _ [8] rfl (by decide +kernel)
set_option maxRecDepth 20000 in
theorem gX6_formula_X6_isNoSet : GoodIn wsX6_formula (va_wsS RX6 45 yX6_isNoSet wsX6_isNoSet) := goodIn_app (goodIn_of _ (by decide +kernel)) ggX6_formula_X6_isNoSet
set_option maxRecDepth 20000 in
theorem ggX6_formula_X3_isSound : GoodIn wsX6_formula wsX3_isSound := goodIn_r _ [12, 13, 14, 11, 15, 16, 17, 18] rfl (by decide +kernel)
set_option maxRecDepth 20000 in
theorem gX6_formula_X3_isSound : GoodIn wsX6_formula (va_wsS RX6 91 yX3_isSound wsX3_isSound) := goodIn_app (goodIn_of _ (by decide +kernel)) ggX6_formula_X3_isSound
set_option maxRecDepth 20000 in
theorem ggX6_formula_X6_takeWork : GoodIn wsX6_formula wsX6_takeWork := goodIn_r _ [22, 23, 151, 152, 153, 154, 155, 156] rfl (by decide +kernel)
set_option maxRecDepth 20000 in
theorem gX6_formula_X6_takeWork : GoodIn wsX6_formula (wsV RX6 74 RX6 yX6_takeWork wsX6_takeWork) := goodIn_app (goodIn_of _ (by decide +kernel)) ggX6_formula_X6_takeWork
set_option maxRecDepth 20000 in
theorem ggX6_formula_X3_evaluate : GoodIn wsX6_formula wsX3_evaluate := goodIn_r _ [27, 28, 29, 13, 14, 11, 15, 16, 17, 18, 30, 31, 32, 33, 34, 35, 36, 37, 38, 39, 40, 41, 42, 43, 44, 45, 46, 47, 48, 49, 50, 51, 52, 53, 54, 55, 56, 57, 58, 59, 60, 61, 62, 63, 64, 65, 66, 67, 68, 69, 70, 71, 72, 73, 74, 75, 76, 77, 78, 79, 80, 81, 82, 83, 84, 85, 86, 87, 88, 89, 90, 91, 92, 93, 94, 95, 96, 97, 98, 99, 100, 101, 102, 103, 104, 105, 106, 107, 108, 109, 110, 111, 112, 113, 114, 115, 116, 117, 118, 119, 120, 121, 122, 123, 124, 125, 126, 127, 128, 129, 130, 131, 132, 133, 134, 135, 136, 137, 138, 139, 140, 141, 142, 143, 144, 145, 157, 158, 159, 160, 161, 162, 163, 164] rfl (by decide +kernel)
set_option maxRecDepth 20000 in
theorem gX6_formula_X3_evaluate : GoodIn wsX6_formula (wsV RX6 95 RX3 yX3_evaluate wsX3_evaluate) := goodIn_app (goodIn_of _ (by decide +kernel)) ggX6_formula_X3_evaluate
set_option maxRecDepth 20000 in
theorem ggX6_formula_X2_exchange : GoodIn wsX6_formula wsX2_exchange := goodIn_r _ [96, 41, 39, 159, 160] rfl (by decide +kernel)
set_option maxRecDepth 20000 in
theorem gX6_formula_X2_exchange : GoodIn wsX6_formula (wsV RX6 81 RX2 yX2_exchange wsX2_exchange) := goodIn_app (goodIn_of _ (by decide +kernel)) ggX6_formula_X2_exchange
set_option maxRecDepth 20000 in
theorem ggX6_formula_X2_total : GoodIn wsX6_formula wsX2_total := goodIn_r _ [150, 39, 41, 42, 159, 160, 161, 162, 163, 164] rfl (by decide +kernel)
set_option maxRecDepth 20000 in
theorem gX6_formula_X2_total : GoodIn wsX6_formula (wsV RX6 63 RX2 yX2_total wsX2_total) := goodIn_app (goodIn_of _ (by decide +kernel)) ggX6_formula_X2_total
theorem dX6_formula_0 : decode cX6_formula 0 = .ok (.iload_n 1, 1) := by decide +kernel
theorem dX6_formula_1 : decode cX6_formula 1 = .ok (.invokestatic 45, 3) := by decide +kernel
theorem dX6_formula_4 : decode cX6_formula 4 = .ok (.ifCond .ne 12, 3) := by decide +kernel
theorem dX6_formula_7 : decode cX6_formula 7 = .ok (.lload_n 2, 1) := by decide +kernel
theorem dX6_formula_8 : decode cX6_formula 8 = .ok (.iload 4, 2) := by decide +kernel
theorem dX6_formula_10 : decode cX6_formula 10 = .ok (.invokestatic 91, 3) := by decide +kernel
theorem dX6_formula_13 : decode cX6_formula 13 = .ok (.ifCond .ne 6, 3) := by decide +kernel
theorem dX6_formula_16 : decode cX6_formula 16 = .ok (.bipush (-2), 2) := by decide +kernel
theorem dX6_formula_18 : decode cX6_formula 18 = .ok (.ireturn, 1) := by decide +kernel
theorem dX6_formula_19 : decode cX6_formula 19 = .ok (.aload_n 0, 1) := by decide +kernel
theorem dX6_formula_20 : decode cX6_formula 20 = .ok (.iload 4, 2) := by decide +kernel
theorem dX6_formula_22 : decode cX6_formula 22 = .ok (.invokevirtual 74, 3) := by decide +kernel
theorem dX6_formula_25 : decode cX6_formula 25 = .ok (.ifCond .ne 6, 3) := by decide +kernel
theorem dX6_formula_28 : decode cX6_formula 28 = .ok (.bipush (-5), 2) := by decide +kernel
theorem dX6_formula_30 : decode cX6_formula 30 = .ok (.ireturn, 1) := by decide +kernel
theorem dX6_formula_31 : decode cX6_formula 31 = .ok (.aload_n 0, 1) := by decide +kernel
theorem dX6_formula_32 : decode cX6_formula 32 = .ok (.getfield 23, 3) := by decide +kernel
theorem dX6_formula_35 : decode cX6_formula 35 = .ok (.lload_n 2, 1) := by decide +kernel
theorem dX6_formula_36 : decode cX6_formula 36 = .ok (.iload 4, 2) := by decide +kernel
theorem dX6_formula_38 : decode cX6_formula 38 = .ok (.aload_n 0, 1) := by decide +kernel
theorem dX6_formula_39 : decode cX6_formula 39 = .ok (.getfield 11, 3) := by decide +kernel
theorem dX6_formula_42 : decode cX6_formula 42 = .ok (.aload_n 0, 1) := by decide +kernel
theorem dX6_formula_43 : decode cX6_formula 43 = .ok (.getfield 16, 3) := by decide +kernel
theorem dX6_formula_46 : decode cX6_formula 46 = .ok (.invokevirtual 95, 3) := by decide +kernel
theorem dX6_formula_49 : decode cX6_formula 49 = .ok (.ifCond .ne 6, 3) := by decide +kernel
theorem dX6_formula_52 : decode cX6_formula 52 = .ok (.bipush (-3), 2) := by decide +kernel
theorem dX6_formula_54 : decode cX6_formula 54 = .ok (.ireturn, 1) := by decide +kernel
theorem dX6_formula_55 : decode cX6_formula 55 = .ok (.aload_n 0, 1) := by decide +kernel
theorem dX6_formula_56 : decode cX6_formula 56 = .ok (.getfield 11, 3) := by decide +kernel
theorem dX6_formula_59 : decode cX6_formula 59 = .ok (.iload_n 1, 1) := by decide +kernel
theorem dX6_formula_60 : decode cX6_formula 60 = .ok (.aaload, 1) := by decide +kernel
theorem dX6_formula_61 : decode cX6_formula 61 = .ok (.aload_n 0, 1) := by decide +kernel
theorem dX6_formula_62 : decode cX6_formula 62 = .ok (.getfield 23, 3) := by decide +kernel
theorem dX6_formula_65 : decode cX6_formula 65 = .ok (.getfield 99, 3) := by decide +kernel
theorem dX6_formula_68 : decode cX6_formula 68 = .ok (.iconst 0, 1) := by decide +kernel
theorem dX6_formula_69 : decode cX6_formula 69 = .ok (.aaload, 1) := by decide +kernel
theorem dX6_formula_70 : decode cX6_formula 70 = .ok (.invokevirtual 81, 3) := by decide +kernel
theorem dX6_formula_73 : decode cX6_formula 73 = .ok (.aload_n 0, 1) := by decide +kernel
theorem dX6_formula_74 : decode cX6_formula 74 = .ok (.getfield 11, 3) := by decide +kernel
theorem dX6_formula_77 : decode cX6_formula 77 = .ok (.iload_n 1, 1) := by decide +kernel
theorem dX6_formula_78 : decode cX6_formula 78 = .ok (.aaload, 1) := by decide +kernel
theorem dX6_formula_79 : decode cX6_formula 79 = .ok (.invokevirtual 63, 3) := by decide +kernel
theorem dX6_formula_82 : decode cX6_formula 82 = .ok (.ireturn, 1) := by decide +kernel
set_option maxRecDepth 20000 in
theorem ggX6_has_X6_isNoSet : GoodIn wsX6_has wsX6_isNoSet := goodIn_r _ [5] rfl (by decide +kernel)
set_option maxRecDepth 20000 in
theorem gX6_has_X6_isNoSet : GoodIn wsX6_has (va_wsS RX6 45 yX6_isNoSet wsX6_isNoSet) := goodIn_app (goodIn_of _ (by decide +kernel)) ggX6_has_X6_isNoSet
set_option maxRecDepth 20000 in
theorem ggX6_has_X6_keyOf : GoodIn wsX6_has wsX6_keyOf := goodIn_r _ [8] rfl (by decide +kernel)
set_option maxRecDepth 20000 in
theorem gX6_has_X6_keyOf : GoodIn wsX6_has (va_wsS RX6 49 yX6_keyOf wsX6_keyOf) := goodIn_app (goodIn_of _ (by decide +kernel)) ggX6_has_X6_keyOf
set_option maxRecDepth 20000 in
theorem ggX6_has_X2_find : GoodIn wsX6_has wsX2_find := goodIn_r _ [13, 14, 15, 16, 17, 12, 18, 19, 20, 21, 22, 23, 24, 25, 42, 43, 44, 45, 46, 47] rfl (by decide +kernel)
set_option maxRecDepth 20000 in
theorem gX6_has_X2_find : GoodIn wsX6_has (wsV RX6 102 RX2 yX2_find wsX2_find) := goodIn_app (goodIn_of _ (by decide +kernel)) ggX6_has_X2_find
set_option maxRecDepth 20000 in
theorem ggX6_has_X6_lowOf : GoodIn wsX6_has wsX6_lowOf := goodIn_r _ [28, 29] rfl (by decide +kernel)
set_option maxRecDepth 20000 in
theorem gX6_has_X6_lowOf : GoodIn wsX6_has (va_wsS RX6 53 yX6_lowOf wsX6_lowOf) := goodIn_app (goodIn_of _ (by decide +kernel)) ggX6_has_X6_lowOf
set_option maxRecDepth 20000 in
theorem ggX6_has_X1_holds : GoodIn wsX6_has wsX1_holds := goodIn_r _ [34, 35, 44, 45, 46, 47] rfl (by decide +kernel)
set_option maxRecDepth 20000 in
theorem gX6_has_X1_holds : GoodIn wsX6_has (wsV RX6 106 RX1 yX1_holds wsX1_holds) := goodIn_app (goodIn_of _ (by decide +kernel)) ggX6_has_X1_holds
theorem dX6_has_0 : decode cX6_has 0 = .ok (.iload_n 1, 1) := by decide +kernel
theorem dX6_has_1 : decode cX6_has 1 = .ok (.invokestatic 45, 3) := by decide +kernel
theorem dX6_has_4 : decode cX6_has 4 = .ok (.ifCond .eq 6, 3) := by decide +kernel
theorem dX6_has_7 : decode cX6_has 7 = .ok (.bipush (-2), 2) := by decide +kernel
theorem dX6_has_9 : decode cX6_has 9 = .ok (.ireturn, 1) := by decide +kernel
theorem dX6_has_10 : decode cX6_has 10 = .ok (.aload_n 0, 1) := by decide +kernel
theorem dX6_has_11 : decode cX6_has 11 = .ok (.getfield 11, 3) := by decide +kernel
theorem dX6_has_14 : decode cX6_has 14 = .ok (.iload_n 1, 1) := by decide +kernel
theorem dX6_has_15 : decode cX6_has 15 = .ok (.aaload, 1) := by decide +kernel
theorem dX6_has_16 : decode cX6_has 16 = .ok (.iload_n 2, 1) := by decide +kernel
theorem dX6_has_17 : decode cX6_has 17 = .ok (.invokestatic 49, 3) := by decide +kernel
theorem dX6_has_20 : decode cX6_has 20 = .ok (.invokevirtual 102, 3) := by decide +kernel
theorem dX6_has_23 : decode cX6_has 23 = .ok (.astore_n 3, 1) := by decide +kernel
theorem dX6_has_24 : decode cX6_has 24 = .ok (.aload_n 3, 1) := by decide +kernel
theorem dX6_has_25 : decode cX6_has 25 = .ok (.ifnull 18, 3) := by decide +kernel
theorem dX6_has_28 : decode cX6_has 28 = .ok (.aload_n 3, 1) := by decide +kernel
theorem dX6_has_29 : decode cX6_has 29 = .ok (.iload_n 2, 1) := by decide +kernel
theorem dX6_has_30 : decode cX6_has 30 = .ok (.invokestatic 53, 3) := by decide +kernel
theorem dX6_has_33 : decode cX6_has 33 = .ok (.invokevirtual 106, 3) := by decide +kernel
theorem dX6_has_36 : decode cX6_has 36 = .ok (.ifCond .eq 7, 3) := by decide +kernel
theorem dX6_has_39 : decode cX6_has 39 = .ok (.iconst 1, 1) := by decide +kernel
theorem dX6_has_40 : decode cX6_has 40 = .ok (.goto 4, 3) := by decide +kernel
theorem dX6_has_43 : decode cX6_has 43 = .ok (.iconst 0, 1) := by decide +kernel
theorem dX6_has_44 : decode cX6_has 44 = .ok (.ireturn, 1) := by decide +kernel
set_option maxRecDepth 20000 in
theorem ggX6_rank_X6_isNoSet : GoodIn wsX6_rank wsX6_isNoSet := goodIn_r _ [5] rfl (by decide +kernel)
set_option maxRecDepth 20000 in
theorem gX6_rank_X6_isNoSet : GoodIn wsX6_rank (va_wsS RX6 45 yX6_isNoSet wsX6_isNoSet) := goodIn_app (goodIn_of _ (by decide +kernel)) ggX6_rank_X6_isNoSet
set_option maxRecDepth 20000 in
theorem ggX6_rank_X6_keyOf : GoodIn wsX6_rank wsX6_keyOf := goodIn_r _ [8] rfl (by decide +kernel)
set_option maxRecDepth 20000 in
theorem gX6_rank_X6_keyOf : GoodIn wsX6_rank (va_wsS RX6 49 yX6_keyOf wsX6_keyOf) := goodIn_app (goodIn_of _ (by decide +kernel)) ggX6_rank_X6_keyOf
set_option maxRecDepth 20000 in
theorem ggX6_rank_X6_lowOf : GoodIn wsX6_rank wsX6_lowOf := goodIn_r _ [11, 12] rfl (by decide +kernel)
set_option maxRecDepth 20000 in
theorem gX6_rank_X6_lowOf : GoodIn wsX6_rank (va_wsS RX6 53 yX6_lowOf wsX6_lowOf) := goodIn_app (goodIn_of _ (by decide +kernel)) ggX6_rank_X6_lowOf
set_option maxRecDepth 20000 in
theorem ggX6_rank_X2_totalUpTo : GoodIn wsX6_rank wsX2_totalUpTo := goodIn_r _ [17, 18, 19, 20, 21, 22, 23, 24, 25, 26, 27, 28, 29, 30, 31, 32, 33, 34, 35, 36, 37, 38, 45, 46, 47, 48, 49, 50] rfl (by decide +kernel)
set_option maxRecDepth 20000 in
theorem gX6_rank_X2_totalUpTo : GoodIn wsX6_rank (wsV RX6 111 RX2 yX2_totalUpTo wsX2_totalUpTo) := goodIn_app (goodIn_of _ (by decide +kernel)) ggX6_rank_X2_totalUpTo
theorem dX6_rank_0 : decode cX6_rank 0 = .ok (.iload_n 1, 1) := by decide +kernel
theorem dX6_rank_1 : decode cX6_rank 1 = .ok (.invokestatic 45, 3) := by decide +kernel
theorem dX6_rank_4 : decode cX6_rank 4 = .ok (.ifCond .eq 8, 3) := by decide +kernel
theorem dX6_rank_7 : decode cX6_rank 7 = .ok (.bipush (-2), 2) := by decide +kernel
theorem dX6_rank_9 : decode cX6_rank 9 = .ok (.goto 20, 3) := by decide +kernel
theorem dX6_rank_12 : decode cX6_rank 12 = .ok (.aload_n 0, 1) := by decide +kernel
theorem dX6_rank_13 : decode cX6_rank 13 = .ok (.getfield 11, 3) := by decide +kernel
theorem dX6_rank_16 : decode cX6_rank 16 = .ok (.iload_n 1, 1) := by decide +kernel
theorem dX6_rank_17 : decode cX6_rank 17 = .ok (.aaload, 1) := by decide +kernel
theorem dX6_rank_18 : decode cX6_rank 18 = .ok (.iload_n 2, 1) := by decide +kernel
theorem dX6_rank_19 : decode cX6_rank 19 = .ok (.invokestatic 49, 3) := by decide +kernel
theorem dX6_rank_22 : decode cX6_rank 22 = .ok (.iload_n 2, 1) := by decide +kernel
theorem dX6_rank_23 : decode cX6_rank 23 = .ok (.invokestatic 53, 3) := by decide +kernel
theorem dX6_rank_26 : decode cX6_rank 26 = .ok (.invokevirtual 111, 3) := by decide +kernel
theorem dX6_rank_29 : decode cX6_rank 29 = .ok (.ireturn, 1) := by decide +kernel
set_option maxRecDepth 20000 in
theorem ggX6_select_X6_isNoSet : GoodIn wsX6_select wsX6_isNoSet := goodIn_r _ [6] rfl (by decide +kernel)
set_option maxRecDepth 20000 in
theorem gX6_select_X6_isNoSet : GoodIn wsX6_select (va_wsS RX6 45 yX6_isNoSet wsX6_isNoSet) := goodIn_app (goodIn_of _ (by decide +kernel)) ggX6_select_X6_isNoSet
set_option maxRecDepth 20000 in
theorem ggX6_select_X2_numberAt : GoodIn wsX6_select wsX2_numberAt := goodIn_r _ [11, 12, 13, 14, 15, 16, 17, 18, 19, 20, 21, 22, 23, 24, 25, 26, 27, 28, 29, 30, 31, 32, 33, 34, 35, 36, 37, 38, 39, 10, 40, 47, 48, 49, 50, 51, 52] rfl (by decide +kernel)
set_option maxRecDepth 20000 in
theorem gX6_select_X2_numberAt : GoodIn wsX6_select (wsV RX6 117 RX2 yX2_numberAt wsX2_numberAt) := goodIn_app (goodIn_of _ (by decide +kernel)) ggX6_select_X2_numberAt
theorem dX6_select_0 : decode cX6_select 0 = .ok (.iload_n 1, 1) := by decide +kernel
theorem dX6_select_1 : decode cX6_select 1 = .ok (.invokestatic 45, 3) := by decide +kernel
theorem dX6_select_4 : decode cX6_select 4 = .ok (.ifCond .ne 7, 3) := by decide +kernel
theorem dX6_select_7 : decode cX6_select 7 = .ok (.iload_n 2, 1) := by decide +kernel
theorem dX6_select_8 : decode cX6_select 8 = .ok (.ifCond .ge 9, 3) := by decide +kernel
theorem dX6_select_11 : decode cX6_select 11 = .ok (.ldc2_w 115, 3) := by decide +kernel
theorem dX6_select_14 : decode cX6_select 14 = .ok (.goto 13, 3) := by decide +kernel
theorem dX6_select_17 : decode cX6_select 17 = .ok (.aload_n 0, 1) := by decide +kernel
theorem dX6_select_18 : decode cX6_select 18 = .ok (.getfield 11, 3) := by decide +kernel
theorem dX6_select_21 : decode cX6_select 21 = .ok (.iload_n 1, 1) := by decide +kernel
theorem dX6_select_22 : decode cX6_select 22 = .ok (.aaload, 1) := by decide +kernel
theorem dX6_select_23 : decode cX6_select 23 = .ok (.iload_n 2, 1) := by decide +kernel
theorem dX6_select_24 : decode cX6_select 24 = .ok (.invokevirtual 117, 3) := by decide +kernel
theorem dX6_select_27 : decode cX6_select 27 = .ok (.lreturn, 1) := by decide +kernel
set_option maxRecDepth 20000 in
theorem ggX6_next_X6_isNoSet : GoodIn wsX6_next wsX6_isNoSet := goodIn_r _ [6] rfl (by decide +kernel)
set_option maxRecDepth 20000 in
theorem gX6_next_X6_isNoSet : GoodIn wsX6_next (va_wsS RX6 45 yX6_isNoSet wsX6_isNoSet) := goodIn_app (goodIn_of _ (by decide +kernel)) ggX6_next_X6_isNoSet
set_option maxRecDepth 20000 in
theorem ggX6_next_X6_keyOf : GoodIn wsX6_next wsX6_keyOf := goodIn_r _ [9] rfl (by decide +kernel)
set_option maxRecDepth 20000 in
theorem gX6_next_X6_keyOf : GoodIn wsX6_next (va_wsS RX6 49 yX6_keyOf wsX6_keyOf) := goodIn_app (goodIn_of _ (by decide +kernel)) ggX6_next_X6_keyOf
set_option maxRecDepth 20000 in
theorem ggX6_next_X6_lowOf : GoodIn wsX6_next wsX6_lowOf := goodIn_r _ [12, 13] rfl (by decide +kernel)
set_option maxRecDepth 20000 in
theorem gX6_next_X6_lowOf : GoodIn wsX6_next (va_wsS RX6 53 yX6_lowOf wsX6_lowOf) := goodIn_app (goodIn_of _ (by decide +kernel)) ggX6_next_X6_lowOf
set_option maxRecDepth 20000 in
theorem ggX6_next_X2_firstFrom : GoodIn wsX6_next wsX2_firstFrom := goodIn_r _ [18, 19, 20, 21, 22, 23, 24, 25, 26, 17, 27, 28, 29, 30, 31, 32, 33, 34, 35, 36, 37, 38, 39, 40, 41, 42, 43, 44, 45, 46, 47, 48, 49, 50, 51, 58, 59, 60, 61, 62, 63] rfl (by decide +kernel)
set_option maxRecDepth 20000 in
theorem gX6_next_X2_firstFrom : GoodIn wsX6_next (wsV RX6 121 RX2 yX2_firstFrom wsX2_firstFrom) := goodIn_app (goodIn_of _ (by decide +kernel)) ggX6_next_X2_firstFrom
theorem dX6_next_0 : decode cX6_next 0 = .ok (.iload_n 1, 1) := by decide +kernel
theorem dX6_next_1 : decode cX6_next 1 = .ok (.invokestatic 45, 3) := by decide +kernel
theorem dX6_next_4 : decode cX6_next 4 = .ok (.ifCond .eq 9, 3) := by decide +kernel
theorem dX6_next_7 : decode cX6_next 7 = .ok (.ldc2_w 115, 3) := by decide +kernel
theorem dX6_next_10 : decode cX6_next 10 = .ok (.goto 20, 3) := by decide +kernel
theorem dX6_next_13 : decode cX6_next 13 = .ok (.aload_n 0, 1) := by decide +kernel
theorem dX6_next_14 : decode cX6_next 14 = .ok (.getfield 11, 3) := by decide +kernel
theorem dX6_next_17 : decode cX6_next 17 = .ok (.iload_n 1, 1) := by decide +kernel
theorem dX6_next_18 : decode cX6_next 18 = .ok (.aaload, 1) := by decide +kernel
theorem dX6_next_19 : decode cX6_next 19 = .ok (.iload_n 2, 1) := by decide +kernel
theorem dX6_next_20 : decode cX6_next 20 = .ok (.invokestatic 49, 3) := by decide +kernel
theorem dX6_next_23 : decode cX6_next 23 = .ok (.iload_n 2, 1) := by decide +kernel
theorem dX6_next_24 : decode cX6_next 24 = .ok (.invokestatic 53, 3) := by decide +kernel
theorem dX6_next_27 : decode cX6_next 27 = .ok (.invokevirtual 121, 3) := by decide +kernel
theorem dX6_next_30 : decode cX6_next 30 = .ok (.lreturn, 1) := by decide +kernel
set_option maxRecDepth 20000 in
theorem ggX6_count_X6_isNoSet : GoodIn wsX6_count wsX6_isNoSet := goodIn_r _ [6] rfl (by decide +kernel)
set_option maxRecDepth 20000 in
theorem gX6_count_X6_isNoSet : GoodIn wsX6_count (va_wsS RX6 45 yX6_isNoSet wsX6_isNoSet) := goodIn_app (goodIn_of _ (by decide +kernel)) ggX6_count_X6_isNoSet
set_option maxRecDepth 20000 in
theorem ggX6_count_X2_total : GoodIn wsX6_count wsX2_total := goodIn_r _ [11, 12, 13, 14, 26, 27, 28, 29, 30, 31] rfl (by decide +kernel)
set_option maxRecDepth 20000 in
theorem gX6_count_X2_total : GoodIn wsX6_count (wsV RX6 63 RX2 yX2_total wsX2_total) := goodIn_app (goodIn_of _ (by decide +kernel)) ggX6_count_X2_total
set_option maxRecDepth 20000 in
theorem ggX6_count_X2_totalOfKind : GoodIn wsX6_count wsX2_totalOfKind := goodIn_r _ [18, 12, 13, 19, 26, 27, 28, 29, 30, 31] rfl (by decide +kernel)
set_option maxRecDepth 20000 in
theorem gX6_count_X2_totalOfKind : GoodIn wsX6_count (wsV RX6 88 RX2 yX2_totalOfKind wsX2_totalOfKind) := goodIn_app (goodIn_of _ (by decide +kernel)) ggX6_count_X2_totalOfKind
theorem dX6_count_0 : decode cX6_count 0 = .ok (.iload_n 1, 1) := by decide +kernel
theorem dX6_count_1 : decode cX6_count 1 = .ok (.invokestatic 45, 3) := by decide +kernel
theorem dX6_count_4 : decode cX6_count 4 = .ok (.ifCond .eq 6, 3) := by decide +kernel
theorem dX6_count_7 : decode cX6_count 7 = .ok (.bipush (-2), 2) := by decide +kernel
theorem dX6_count_9 : decode cX6_count 9 = .ok (.ireturn, 1) := by decide +kernel
theorem dX6_count_10 : decode cX6_count 10 = .ok (.iload_n 2, 1) := by decide +kernel
theorem dX6_count_11 : decode cX6_count 11 = .ok (.tableswitch 86 0 4 #[33, 43, 53, 64, 75], 33) := by decide +kernel
theorem dX6_count_44 : decode cX6_count 44 = .ok (.aload_n 0, 1) := by decide +kernel
theorem dX6_count_45 : decode cX6_count 45 = .ok (.getfield 11, 3) := by decide +kernel
theorem dX6_count_48 : decode cX6_count 48 = .ok (.iload_n 1, 1) := by decide +kernel
theorem dX6_count_49 : decode cX6_count 49 = .ok (.aaload, 1) := by decide +kernel
theorem dX6_count_50 : decode cX6_count 50 = .ok (.invokevirtual 63, 3) := by decide +kernel
theorem dX6_count_53 : decode cX6_count 53 = .ok (.ireturn, 1) := by decide +kernel
theorem dX6_count_54 : decode cX6_count 54 = .ok (.aload_n 0, 1) := by decide +kernel
theorem dX6_count_55 : decode cX6_count 55 = .ok (.getfield 11, 3) := by decide +kernel
theorem dX6_count_58 : decode cX6_count 58 = .ok (.iload_n 1, 1) := by decide +kernel
theorem dX6_count_59 : decode cX6_count 59 = .ok (.aaload, 1) := by decide +kernel
theorem dX6_count_60 : decode cX6_count 60 = .ok (.getfield 71, 3) := by decide +kernel
theorem dX6_count_63 : decode cX6_count 63 = .ok (.ireturn, 1) := by decide +kernel
theorem dX6_count_64 : decode cX6_count 64 = .ok (.aload_n 0, 1) := by decide +kernel
theorem dX6_count_65 : decode cX6_count 65 = .ok (.getfield 11, 3) := by decide +kernel
theorem dX6_count_68 : decode cX6_count 68 = .ok (.iload_n 1, 1) := by decide +kernel
theorem dX6_count_69 : decode cX6_count 69 = .ok (.aaload, 1) := by decide +kernel
theorem dX6_count_70 : decode cX6_count 70 = .ok (.iconst 0, 1) := by decide +kernel
theorem dX6_count_71 : decode cX6_count 71 = .ok (.invokevirtual 88, 3) := by decide +kernel
theorem dX6_count_74 : decode cX6_count 74 = .ok (.ireturn, 1) := by decide +kernel
theorem dX6_count_75 : decode cX6_count 75 = .ok (.aload_n 0, 1) := by decide +kernel
theorem dX6_count_76 : decode cX6_count 76 = .ok (.getfield 11, 3) := by decide +kernel
theorem dX6_count_79 : decode cX6_count 79 = .ok (.iload_n 1, 1) := by decide +kernel
theorem dX6_count_80 : decode cX6_count 80 = .ok (.aaload, 1) := by decide +kernel
theorem dX6_count_81 : decode cX6_count 81 = .ok (.iconst 1, 1) := by decide +kernel
theorem dX6_count_82 : decode cX6_count 82 = .ok (.invokevirtual 88, 3) := by decide +kernel
theorem dX6_count_85 : decode cX6_count 85 = .ok (.ireturn, 1) := by decide +kernel
theorem dX6_count_86 : decode cX6_count 86 = .ok (.aload_n 0, 1) := by decide +kernel
theorem dX6_count_87 : decode cX6_count 87 = .ok (.getfield 11, 3) := by decide +kernel
theorem dX6_count_90 : decode cX6_count 90 = .ok (.iload_n 1, 1) := by decide +kernel
theorem dX6_count_91 : decode cX6_count 91 = .ok (.aaload, 1) := by decide +kernel
theorem dX6_count_92 : decode cX6_count 92 = .ok (.iconst 2, 1) := by decide +kernel
theorem dX6_count_93 : decode cX6_count 93 = .ok (.invokevirtual 88, 3) := by decide +kernel
theorem dX6_count_96 : decode cX6_count 96 = .ok (.ireturn, 1) := by decide +kernel
theorem dX6_count_97 : decode cX6_count 97 = .ok (.bipush (-2), 2) := by decide +kernel
theorem dX6_count_99 : decode cX6_count 99 = .ok (.ireturn, 1) := by decide +kernel
set_option maxRecDepth 20000 in
theorem ggX6_container_X6_isNoSet : GoodIn wsX6_container wsX6_isNoSet := goodIn_r _ [10] rfl (by decide +kernel)
set_option maxRecDepth 20000 in
theorem gX6_container_X6_isNoSet : GoodIn wsX6_container (va_wsS RX6 45 yX6_isNoSet wsX6_isNoSet) := goodIn_app (goodIn_of _ (by decide +kernel)) ggX6_container_X6_isNoSet
set_option maxRecDepth 20000 in
theorem ggX6_container_X1_totalRuns : GoodIn wsX6_container wsX1_totalRuns := goodIn_r _ [15, 16, 17, 18, 19, 20, 21, 22, 23, 24, 33, 34, 35, 36] rfl (by decide +kernel)
set_option maxRecDepth 20000 in
theorem gX6_container_X1_totalRuns : GoodIn wsX6_container (wsV RX6 137 RX1 yX1_totalRuns wsX1_totalRuns) := goodIn_app (goodIn_of _ (by decide +kernel)) ggX6_container_X1_totalRuns
theorem dX6_container_0 : decode cX6_container 0 = .ok (.iload_n 1, 1) := by decide +kernel
theorem dX6_container_1 : decode cX6_container 1 = .ok (.invokestatic 45, 3) := by decide +kernel
theorem dX6_container_4 : decode cX6_container 4 = .ok (.ifCond .ne 20, 3) := by decide +kernel
theorem dX6_container_7 : decode cX6_container 7 = .ok (.iload_n 2, 1) := by decide +kernel
theorem dX6_container_8 : decode cX6_container 8 = .ok (.ifCond .lt 16, 3) := by decide +kernel
theorem dX6_container_11 : decode cX6_container 11 = .ok (.iload_n 2, 1) := by decide +kernel
theorem dX6_container_12 : decode cX6_container 12 = .ok (.aload_n 0, 1) := by decide +kernel
theorem dX6_container_13 : decode cX6_container 13 = .ok (.getfield 11, 3) := by decide +kernel
theorem dX6_container_16 : decode cX6_container 16 = .ok (.iload_n 1, 1) := by decide +kernel
theorem dX6_container_17 : decode cX6_container 17 = .ok (.aaload, 1) := by decide +kernel
theorem dX6_container_18 : decode cX6_container 18 = .ok (.getfield 71, 3) := by decide +kernel
theorem dX6_container_21 : decode cX6_container 21 = .ok (.if_icmp .lt 6, 3) := by decide +kernel
theorem dX6_container_24 : decode cX6_container 24 = .ok (.bipush (-2), 2) := by decide +kernel
theorem dX6_container_26 : decode cX6_container 26 = .ok (.ireturn, 1) := by decide +kernel
theorem dX6_container_27 : decode cX6_container 27 = .ok (.aload_n 0, 1) := by decide +kernel
theorem dX6_container_28 : decode cX6_container 28 = .ok (.getfield 11, 3) := by decide +kernel
theorem dX6_container_31 : decode cX6_container 31 = .ok (.iload_n 1, 1) := by decide +kernel
theorem dX6_container_32 : decode cX6_container 32 = .ok (.aaload, 1) := by decide +kernel
theorem dX6_container_33 : decode cX6_container 33 = .ok (.getfield 125, 3) := by decide +kernel
theorem dX6_container_36 : decode cX6_container 36 = .ok (.iload_n 2, 1) := by decide +kernel
theorem dX6_container_37 : decode cX6_container 37 = .ok (.aaload, 1) := by decide +kernel
theorem dX6_container_38 : decode cX6_container 38 = .ok (.astore 4, 2) := by decide +kernel
theorem dX6_container_40 : decode cX6_container 40 = .ok (.iload_n 3, 1) := by decide +kernel
theorem dX6_container_41 : decode cX6_container 41 = .ok (.tableswitch 55 0 3 #[31, 37, 43, 49], 31) := by decide +kernel
theorem dX6_container_72 : decode cX6_container 72 = .ok (.aload 4, 2) := by decide +kernel
theorem dX6_container_74 : decode cX6_container 74 = .ok (.getfield 129, 3) := by decide +kernel
theorem dX6_container_77 : decode cX6_container 77 = .ok (.ireturn, 1) := by decide +kernel
theorem dX6_container_78 : decode cX6_container 78 = .ok (.aload 4, 2) := by decide +kernel
theorem dX6_container_80 : decode cX6_container 80 = .ok (.getfield 132, 3) := by decide +kernel
theorem dX6_container_83 : decode cX6_container 83 = .ok (.ireturn, 1) := by decide +kernel
theorem dX6_container_84 : decode cX6_container 84 = .ok (.aload 4, 2) := by decide +kernel
theorem dX6_container_86 : decode cX6_container 86 = .ok (.getfield 135, 3) := by decide +kernel
theorem dX6_container_89 : decode cX6_container 89 = .ok (.ireturn, 1) := by decide +kernel
theorem dX6_container_90 : decode cX6_container 90 = .ok (.aload 4, 2) := by decide +kernel
theorem dX6_container_92 : decode cX6_container 92 = .ok (.invokevirtual 137, 3) := by decide +kernel
theorem dX6_container_95 : decode cX6_container 95 = .ok (.ireturn, 1) := by decide +kernel
theorem dX6_container_96 : decode cX6_container 96 = .ok (.bipush (-2), 2) := by decide +kernel
theorem dX6_container_98 : decode cX6_container 98 = .ok (.ireturn, 1) := by decide +kernel
set_option maxRecDepth 20000 in
theorem ggX6_compare_X6_isNoSet : GoodIn wsX6_compare wsX6_isNoSet := goodIn_r _ [5] rfl (by decide +kernel)
set_option maxRecDepth 20000 in
theorem gX6_compare_X6_isNoSet : GoodIn wsX6_compare (va_wsS RX6 45 yX6_isNoSet wsX6_isNoSet) := goodIn_app (goodIn_of _ (by decide +kernel)) ggX6_compare_X6_isNoSet
set_option maxRecDepth 20000 in
theorem ggX6_compare_X2_isInside : GoodIn wsX6_compare wsX2_isInside := goodIn_r _ [10, 11, 12, 13, 14, 15, 16, 9, 17, 18, 19, 20, 21, 22, 23, 24, 25, 26, 27, 28, 29, 30, 31, 32, 33, 48, 49, 50, 51, 52, 53] rfl (by decide +kernel)
set_option maxRecDepth 20000 in
theorem gX6_compare_X2_isInside : GoodIn wsX6_compare (wsV RX6 140 RX2 yX2_isInside wsX2_isInside) := goodIn_app (goodIn_of _ (by decide +kernel)) ggX6_compare_X2_isInside
set_option maxRecDepth 20000 in
theorem ggX6_compare_X2_meets : GoodIn wsX6_compare wsX2_meets := goodIn_r _ [37, 11, 12, 13, 14, 15, 16, 9, 17, 18, 19, 20, 21, 22, 23, 24, 25, 26, 38, 39, 40, 30, 41, 32, 48, 49, 50, 51, 52, 53] rfl (by decide +kernel)
set_option maxRecDepth 20000 in
theorem gX6_compare_X2_meets : GoodIn wsX6_compare (wsV RX6 144 RX2 yX2_meets wsX2_meets) := goodIn_app (goodIn_of _ (by decide +kernel)) ggX6_compare_X2_meets
theorem dX6_compare_0 : decode cX6_compare 0 = .ok (.iload_n 1, 1) := by decide +kernel
theorem dX6_compare_1 : decode cX6_compare 1 = .ok (.invokestatic 45, 3) := by decide +kernel
theorem dX6_compare_4 : decode cX6_compare 4 = .ok (.ifCond .ne 10, 3) := by decide +kernel
theorem dX6_compare_7 : decode cX6_compare 7 = .ok (.iload_n 2, 1) := by decide +kernel
theorem dX6_compare_8 : decode cX6_compare 8 = .ok (.invokestatic 45, 3) := by decide +kernel
theorem dX6_compare_11 : decode cX6_compare 11 = .ok (.ifCond .eq 6, 3) := by decide +kernel
theorem dX6_compare_14 : decode cX6_compare 14 = .ok (.bipush (-2), 2) := by decide +kernel
theorem dX6_compare_16 : decode cX6_compare 16 = .ok (.ireturn, 1) := by decide +kernel
theorem dX6_compare_17 : decode cX6_compare 17 = .ok (.aload_n 0, 1) := by decide +kernel
theorem dX6_compare_18 : decode cX6_compare 18 = .ok (.getfield 11, 3) := by decide +kernel
theorem dX6_compare_21 : decode cX6_compare 21 = .ok (.iload_n 1, 1) := by decide +kernel
theorem dX6_compare_22 : decode cX6_compare 22 = .ok (.aaload, 1) := by decide +kernel
theorem dX6_compare_23 : decode cX6_compare 23 = .ok (.aload_n 0, 1) := by decide +kernel
theorem dX6_compare_24 : decode cX6_compare 24 = .ok (.getfield 11, 3) := by decide +kernel
theorem dX6_compare_27 : decode cX6_compare 27 = .ok (.iload_n 2, 1) := by decide +kernel
theorem dX6_compare_28 : decode cX6_compare 28 = .ok (.aaload, 1) := by decide +kernel
theorem dX6_compare_29 : decode cX6_compare 29 = .ok (.invokevirtual 140, 3) := by decide +kernel
theorem dX6_compare_32 : decode cX6_compare 32 = .ok (.istore_n 3, 1) := by decide +kernel
theorem dX6_compare_33 : decode cX6_compare 33 = .ok (.aload_n 0, 1) := by decide +kernel
theorem dX6_compare_34 : decode cX6_compare 34 = .ok (.getfield 11, 3) := by decide +kernel
theorem dX6_compare_37 : decode cX6_compare 37 = .ok (.iload_n 2, 1) := by decide +kernel
theorem dX6_compare_38 : decode cX6_compare 38 = .ok (.aaload, 1) := by decide +kernel
theorem dX6_compare_39 : decode cX6_compare 39 = .ok (.aload_n 0, 1) := by decide +kernel
theorem dX6_compare_40 : decode cX6_compare 40 = .ok (.getfield 11, 3) := by decide +kernel
theorem dX6_compare_43 : decode cX6_compare 43 = .ok (.iload_n 1, 1) := by decide +kernel
theorem dX6_compare_44 : decode cX6_compare 44 = .ok (.aaload, 1) := by decide +kernel
theorem dX6_compare_45 : decode cX6_compare 45 = .ok (.invokevirtual 140, 3) := by decide +kernel
theorem dX6_compare_48 : decode cX6_compare 48 = .ok (.istore 4, 2) := by decide +kernel
theorem dX6_compare_50 : decode cX6_compare 50 = .ok (.iload_n 3, 1) := by decide +kernel
theorem dX6_compare_51 : decode cX6_compare 51 = .ok (.ifCond .eq 14, 3) := by decide +kernel
theorem dX6_compare_54 : decode cX6_compare 54 = .ok (.iload 4, 2) := by decide +kernel
theorem dX6_compare_56 : decode cX6_compare 56 = .ok (.ifCond .eq 7, 3) := by decide +kernel
theorem dX6_compare_59 : decode cX6_compare 59 = .ok (.iconst 2, 1) := by decide +kernel
theorem dX6_compare_60 : decode cX6_compare 60 = .ok (.goto 4, 3) := by decide +kernel
theorem dX6_compare_63 : decode cX6_compare 63 = .ok (.iconst 3, 1) := by decide +kernel
theorem dX6_compare_64 : decode cX6_compare 64 = .ok (.ireturn, 1) := by decide +kernel
theorem dX6_compare_65 : decode cX6_compare 65 = .ok (.iload 4, 2) := by decide +kernel
theorem dX6_compare_67 : decode cX6_compare 67 = .ok (.ifCond .eq 5, 3) := by decide +kernel
theorem dX6_compare_70 : decode cX6_compare 70 = .ok (.iconst 4, 1) := by decide +kernel
theorem dX6_compare_71 : decode cX6_compare 71 = .ok (.ireturn, 1) := by decide +kernel
theorem dX6_compare_72 : decode cX6_compare 72 = .ok (.aload_n 0, 1) := by decide +kernel
theorem dX6_compare_73 : decode cX6_compare 73 = .ok (.getfield 11, 3) := by decide +kernel
theorem dX6_compare_76 : decode cX6_compare 76 = .ok (.iload_n 1, 1) := by decide +kernel
theorem dX6_compare_77 : decode cX6_compare 77 = .ok (.aaload, 1) := by decide +kernel
theorem dX6_compare_78 : decode cX6_compare 78 = .ok (.aload_n 0, 1) := by decide +kernel
theorem dX6_compare_79 : decode cX6_compare 79 = .ok (.getfield 11, 3) := by decide +kernel
theorem dX6_compare_82 : decode cX6_compare 82 = .ok (.iload_n 2, 1) := by decide +kernel
theorem dX6_compare_83 : decode cX6_compare 83 = .ok (.aaload, 1) := by decide +kernel
theorem dX6_compare_84 : decode cX6_compare 84 = .ok (.invokevirtual 144, 3) := by decide +kernel
theorem dX6_compare_87 : decode cX6_compare 87 = .ok (.ifCond .eq 7, 3) := by decide +kernel
theorem dX6_compare_90 : decode cX6_compare 90 = .ok (.iconst 1, 1) := by decide +kernel
theorem dX6_compare_91 : decode cX6_compare 91 = .ok (.goto 4, 3) := by decide +kernel
theorem dX6_compare_94 : decode cX6_compare 94 = .ok (.iconst 0, 1) := by decide +kernel
theorem dX6_compare_95 : decode cX6_compare 95 = .ok (.ireturn, 1) := by decide +kernel
set_option maxRecDepth 20000 in
theorem ggX6_write_X6_isNoSet : GoodIn wsX6_write wsX6_isNoSet := goodIn_r _ [8] rfl (by decide +kernel)
set_option maxRecDepth 20000 in
theorem gX6_write_X6_isNoSet : GoodIn wsX6_write (va_wsS RX6 45 yX6_isNoSet wsX6_isNoSet) := goodIn_app (goodIn_of _ (by decide +kernel)) ggX6_write_X6_isNoSet
set_option maxRecDepth 20000 in
theorem ggX6_write_X5_bytesOf : GoodIn wsX6_write wsX5_bytesOf := goodIn_r _ [12, 13, 14, 15, 16, 11, 17, 18, 19, 20, 21, 22, 23, 24, 25, 26, 27, 28, 29, 30, 31, 32, 33, 34, 35, 36, 37, 38, 39, 40, 41, 42, 43, 44, 45, 46, 47, 48, 49, 50, 134, 135, 136, 137, 138, 139] rfl (by decide +kernel)
set_option maxRecDepth 20000 in
theorem gX6_write_X5_bytesOf : GoodIn wsX6_write (va_wsS RX6 147 yX5_bytesOf wsX5_bytesOf) := goodIn_app (goodIn_of _ (by decide +kernel)) ggX6_write_X5_bytesOf
set_option maxRecDepth 20000 in
theorem ggX6_write_X5_putSet : GoodIn wsX6_write wsX5_putSet := goodIn_r _ [53, 13, 14, 54, 36, 55, 56, 11, 57, 58, 35, 59, 18, 19, 20, 21, 22, 23, 24, 25, 26, 27, 28, 60, 61, 62, 63, 64, 65, 66, 67, 68, 69, 70, 71, 72, 73, 74, 75, 76, 77, 78, 79, 80, 81, 82, 83, 84, 85, 86, 29, 30, 31, 87, 88, 89, 15, 16, 17, 32, 33, 34, 37, 38, 39, 40, 41, 42, 43, 44, 45, 46, 47, 48, 49, 50, 90, 91, 92, 93, 94, 95, 96, 97, 98, 99, 100, 101, 102, 103, 104, 105, 106, 107, 108, 109, 110, 111, 112, 113, 114, 115, 116, 117, 118, 119, 120, 121, 122, 123, 124, 125, 134, 135, 136, 137, 138, 139, 132, 133] rfl (by decide +kernel)
set_option maxRecDepth 20000 in
theorem gX6_write_X5_putSet : GoodIn wsX6_write (va_wsS RX6 155 yX5_putSet wsX5_putSet) := goodIn_app (goodIn_of _ (by decide +kernel)) ggX6_write_X5_putSet
theorem dX6_write_0 : decode cX6_write 0 = .ok (.iload_n 1, 1) := by decide +kernel
theorem dX6_write_1 : decode cX6_write 1 = .ok (.invokestatic 45, 3) := by decide +kernel
theorem dX6_write_4 : decode cX6_write 4 = .ok (.ifCond .eq 6, 3) := by decide +kernel
theorem dX6_write_7 : decode cX6_write 7 = .ok (.bipush (-2), 2) := by decide +kernel
theorem dX6_write_9 : decode cX6_write 9 = .ok (.ireturn, 1) := by decide +kernel
theorem dX6_write_10 : decode cX6_write 10 = .ok (.aload_n 0, 1) := by decide +kernel
theorem dX6_write_11 : decode cX6_write 11 = .ok (.getfield 11, 3) := by decide +kernel
theorem dX6_write_14 : decode cX6_write 14 = .ok (.iload_n 1, 1) := by decide +kernel
theorem dX6_write_15 : decode cX6_write 15 = .ok (.aaload, 1) := by decide +kernel
theorem dX6_write_16 : decode cX6_write 16 = .ok (.invokestatic 147, 3) := by decide +kernel
theorem dX6_write_19 : decode cX6_write 19 = .ok (.ldc 153, 2) := by decide +kernel
theorem dX6_write_21 : decode cX6_write 21 = .ok (.if_icmp .le 6, 3) := by decide +kernel
theorem dX6_write_24 : decode cX6_write 24 = .ok (.bipush (-4), 2) := by decide +kernel
theorem dX6_write_26 : decode cX6_write 26 = .ok (.ireturn, 1) := by decide +kernel
theorem dX6_write_27 : decode cX6_write 27 = .ok (.aload_n 0, 1) := by decide +kernel
theorem dX6_write_28 : decode cX6_write 28 = .ok (.getfield 30, 3) := by decide +kernel
theorem dX6_write_31 : decode cX6_write 31 = .ok (.iconst 0, 1) := by decide +kernel
theorem dX6_write_32 : decode cX6_write 32 = .ok (.putfield 154, 3) := by decide +kernel
theorem dX6_write_35 : decode cX6_write 35 = .ok (.aload_n 0, 1) := by decide +kernel
theorem dX6_write_36 : decode cX6_write 36 = .ok (.getfield 11, 3) := by decide +kernel
theorem dX6_write_39 : decode cX6_write 39 = .ok (.iload_n 1, 1) := by decide +kernel
theorem dX6_write_40 : decode cX6_write 40 = .ok (.aaload, 1) := by decide +kernel
theorem dX6_write_41 : decode cX6_write 41 = .ok (.aload_n 0, 1) := by decide +kernel
theorem dX6_write_42 : decode cX6_write 42 = .ok (.getfield 30, 3) := by decide +kernel
theorem dX6_write_45 : decode cX6_write 45 = .ok (.invokestatic 155, 3) := by decide +kernel
theorem dX6_write_48 : decode cX6_write 48 = .ok (.aload_n 0, 1) := by decide +kernel
theorem dX6_write_49 : decode cX6_write 49 = .ok (.getfield 30, 3) := by decide +kernel
theorem dX6_write_52 : decode cX6_write 52 = .ok (.getfield 154, 3) := by decide +kernel
theorem dX6_write_55 : decode cX6_write 55 = .ok (.ireturn, 1) := by decide +kernel
set_option maxRecDepth 20000 in
theorem ggX6_read_X6_isNoSet : GoodIn wsX6_read wsX6_isNoSet := goodIn_r _ [9] rfl (by decide +kernel)
set_option maxRecDepth 20000 in
theorem gX6_read_X6_isNoSet : GoodIn wsX6_read (va_wsS RX6 45 yX6_isNoSet wsX6_isNoSet) := goodIn_app (goodIn_of _ (by decide +kernel)) ggX6_read_X6_isNoSet
set_option maxRecDepth 20000 in
theorem ggX6_read_X6_takeWork : GoodIn wsX6_read wsX6_takeWork := goodIn_r _ [13, 14, 145, 146, 147, 148, 149, 150] rfl (by decide +kernel)
set_option maxRecDepth 20000 in
theorem gX6_read_X6_takeWork : GoodIn wsX6_read (wsV RX6 74 RX6 yX6_takeWork wsX6_takeWork) := goodIn_app (goodIn_of _ (by decide +kernel)) ggX6_read_X6_takeWork
set_option maxRecDepth 20000 in
theorem ggX6_read_X4_takeSet : GoodIn wsX6_read wsX4_takeSet := goodIn_r _ [19, 20, 21, 22, 23, 24, 25, 26, 27, 28, 29, 30, 31, 32, 18, 33, 34, 35, 36, 37, 38, 39, 40, 41, 42, 43, 44, 45, 46, 47, 48, 49, 50, 51, 52, 53, 54, 55, 56, 57, 58, 59, 60, 61, 62, 63, 64, 65, 66, 67, 68, 69, 70, 71, 72, 73, 74, 75, 76, 77, 78, 79, 80, 81, 82, 83, 84, 85, 86, 87, 88, 89, 90, 91, 92, 93, 94, 95, 96, 97, 98, 99, 100, 101, 102, 103, 104, 105, 106, 107, 108, 109, 110, 111, 112, 113, 114, 115, 116, 117, 118, 119, 120, 121, 122, 123, 124, 125, 126, 127, 128, 129, 130, 131, 132, 151, 152, 153, 154, 155, 156, 157, 158, 159, 160, 161, 162, 163, 164, 165, 166, 167, 168] rfl (by decide +kernel)
set_option maxRecDepth 20000 in
theorem gX6_read_X4_takeSet : GoodIn wsX6_read (wsV RX6 159 RX4 yX4_takeSet wsX4_takeSet) := goodIn_app (goodIn_of _ (by decide +kernel)) ggX6_read_X4_takeSet
set_option maxRecDepth 20000 in
theorem ggX6_read_X2_exchange : GoodIn wsX6_read wsX2_exchange := goodIn_r _ [137, 138, 139, 163, 164] rfl (by decide +kernel)
set_option maxRecDepth 20000 in
theorem gX6_read_X2_exchange : GoodIn wsX6_read (wsV RX6 81 RX2 yX2_exchange wsX2_exchange) := goodIn_app (goodIn_of _ (by decide +kernel)) ggX6_read_X2_exchange
set_option maxRecDepth 20000 in
theorem ggX6_read_X2_total : GoodIn wsX6_read wsX2_total := goodIn_r _ [143, 139, 138, 144, 163, 164, 165, 166, 167, 168] rfl (by decide +kernel)
set_option maxRecDepth 20000 in
theorem gX6_read_X2_total : GoodIn wsX6_read (wsV RX6 63 RX2 yX2_total wsX2_total) := goodIn_app (goodIn_of _ (by decide +kernel)) ggX6_read_X2_total
theorem dX6_read_0 : decode cX6_read 0 = .ok (.iload_n 1, 1) := by decide +kernel
theorem dX6_read_1 : decode cX6_read 1 = .ok (.invokestatic 45, 3) := by decide +kernel
theorem dX6_read_4 : decode cX6_read 4 = .ok (.ifCond .eq 6, 3) := by decide +kernel
theorem dX6_read_7 : decode cX6_read 7 = .ok (.bipush (-2), 2) := by decide +kernel
theorem dX6_read_9 : decode cX6_read 9 = .ok (.ireturn, 1) := by decide +kernel
theorem dX6_read_10 : decode cX6_read 10 = .ok (.aload_n 0, 1) := by decide +kernel
theorem dX6_read_11 : decode cX6_read 11 = .ok (.iconst 1, 1) := by decide +kernel
theorem dX6_read_12 : decode cX6_read 12 = .ok (.invokevirtual 74, 3) := by decide +kernel
theorem dX6_read_15 : decode cX6_read 15 = .ok (.ifCond .ne 6, 3) := by decide +kernel
theorem dX6_read_18 : decode cX6_read 18 = .ok (.bipush (-5), 2) := by decide +kernel
theorem dX6_read_20 : decode cX6_read 20 = .ok (.ireturn, 1) := by decide +kernel
theorem dX6_read_21 : decode cX6_read 21 = .ok (.aload_n 0, 1) := by decide +kernel
theorem dX6_read_22 : decode cX6_read 22 = .ok (.getfield 37, 3) := by decide +kernel
theorem dX6_read_25 : decode cX6_read 25 = .ok (.aload_n 0, 1) := by decide +kernel
theorem dX6_read_26 : decode cX6_read 26 = .ok (.getfield 30, 3) := by decide +kernel
theorem dX6_read_29 : decode cX6_read 29 = .ok (.aload_n 0, 1) := by decide +kernel
theorem dX6_read_30 : decode cX6_read 30 = .ok (.getfield 16, 3) := by decide +kernel
theorem dX6_read_33 : decode cX6_read 33 = .ok (.invokevirtual 159, 3) := by decide +kernel
theorem dX6_read_36 : decode cX6_read 36 = .ok (.ifCond .ne 14, 3) := by decide +kernel
theorem dX6_read_39 : decode cX6_read 39 = .ok (.bipush (-100), 2) := by decide +kernel
theorem dX6_read_41 : decode cX6_read 41 = .ok (.aload_n 0, 1) := by decide +kernel
theorem dX6_read_42 : decode cX6_read 42 = .ok (.getfield 37, 3) := by decide +kernel
theorem dX6_read_45 : decode cX6_read 45 = .ok (.getfield 163, 3) := by decide +kernel
theorem dX6_read_48 : decode cX6_read 48 = .ok (.isub, 1) := by decide +kernel
theorem dX6_read_49 : decode cX6_read 49 = .ok (.ireturn, 1) := by decide +kernel
theorem dX6_read_50 : decode cX6_read 50 = .ok (.aload_n 0, 1) := by decide +kernel
theorem dX6_read_51 : decode cX6_read 51 = .ok (.getfield 11, 3) := by decide +kernel
theorem dX6_read_54 : decode cX6_read 54 = .ok (.iload_n 1, 1) := by decide +kernel
theorem dX6_read_55 : decode cX6_read 55 = .ok (.aaload, 1) := by decide +kernel
theorem dX6_read_56 : decode cX6_read 56 = .ok (.aload_n 0, 1) := by decide +kernel
theorem dX6_read_57 : decode cX6_read 57 = .ok (.getfield 16, 3) := by decide +kernel
theorem dX6_read_60 : decode cX6_read 60 = .ok (.invokevirtual 81, 3) := by decide +kernel
theorem dX6_read_63 : decode cX6_read 63 = .ok (.aload_n 0, 1) := by decide +kernel
theorem dX6_read_64 : decode cX6_read 64 = .ok (.getfield 11, 3) := by decide +kernel
theorem dX6_read_67 : decode cX6_read 67 = .ok (.iload_n 1, 1) := by decide +kernel
theorem dX6_read_68 : decode cX6_read 68 = .ok (.aaload, 1) := by decide +kernel
theorem dX6_read_69 : decode cX6_read 69 = .ok (.invokevirtual 63, 3) := by decide +kernel
theorem dX6_read_72 : decode cX6_read 72 = .ok (.ireturn, 1) := by decide +kernel
theorem dX6_fault_0 : decode cX6_fault 0 = .ok (.aload_n 0, 1) := by decide +kernel
theorem dX6_fault_1 : decode cX6_fault 1 = .ok (.getfield 37, 3) := by decide +kernel
theorem dX6_fault_4 : decode cX6_fault 4 = .ok (.getfield 166, 3) := by decide +kernel
theorem dX6_fault_7 : decode cX6_fault 7 = .ok (.ireturn, 1) := by decide +kernel
theorem dX6_cut_0 : decode cX6_cut 0 = .ok (.iload_n 1, 1) := by decide +kernel
theorem dX6_cut_1 : decode cX6_cut 1 = .ok (.ifCond .lt 14, 3) := by decide +kernel
theorem dX6_cut_4 : decode cX6_cut 4 = .ok (.iload_n 1, 1) := by decide +kernel
theorem dX6_cut_5 : decode cX6_cut 5 = .ok (.aload_n 0, 1) := by decide +kernel
theorem dX6_cut_6 : decode cX6_cut 6 = .ok (.getfield 30, 3) := by decide +kernel
theorem dX6_cut_9 : decode cX6_cut 9 = .ok (.getfield 154, 3) := by decide +kernel
theorem dX6_cut_12 : decode cX6_cut 12 = .ok (.if_icmp .le 6, 3) := by decide +kernel
theorem dX6_cut_15 : decode cX6_cut 15 = .ok (.bipush (-2), 2) := by decide +kernel
theorem dX6_cut_17 : decode cX6_cut 17 = .ok (.ireturn, 1) := by decide +kernel
theorem dX6_cut_18 : decode cX6_cut 18 = .ok (.aload_n 0, 1) := by decide +kernel
theorem dX6_cut_19 : decode cX6_cut 19 = .ok (.getfield 30, 3) := by decide +kernel
theorem dX6_cut_22 : decode cX6_cut 22 = .ok (.getfield 154, 3) := by decide +kernel
theorem dX6_cut_25 : decode cX6_cut 25 = .ok (.iload_n 1, 1) := by decide +kernel
theorem dX6_cut_26 : decode cX6_cut 26 = .ok (.isub, 1) := by decide +kernel
theorem dX6_cut_27 : decode cX6_cut 27 = .ok (.istore_n 2, 1) := by decide +kernel
theorem dX6_cut_28 : decode cX6_cut 28 = .ok (.aload_n 0, 1) := by decide +kernel
theorem dX6_cut_29 : decode cX6_cut 29 = .ok (.getfield 30, 3) := by decide +kernel
theorem dX6_cut_32 : decode cX6_cut 32 = .ok (.iload_n 1, 1) := by decide +kernel
theorem dX6_cut_33 : decode cX6_cut 33 = .ok (.putfield 154, 3) := by decide +kernel
theorem dX6_cut_36 : decode cX6_cut 36 = .ok (.iload_n 2, 1) := by decide +kernel
theorem dX6_cut_37 : decode cX6_cut 37 = .ok (.ireturn, 1) := by decide +kernel
set_option maxRecDepth 20000 in
theorem ggX6_type_X0_put : GoodIn wsX6_type wsX0_put := goodIn_r _ [8, 9, 10, 11, 12, 13, 14, 15, 16, 17, 18, 19, 20, 21, 22, 23, 24, 25, 26, 27, 28, 29, 30, 37, 38] rfl (by decide +kernel)
set_option maxRecDepth 20000 in
theorem gX6_type_X0_put : GoodIn wsX6_type (wsV RX6 169 RX0 yX0_put wsX0_put) := goodIn_app (goodIn_of _ (by decide +kernel)) ggX6_type_X0_put
theorem dX6_type_0 : decode cX6_type 0 = .ok (.iload_n 3, 1) := by decide +kernel
theorem dX6_type_1 : decode cX6_type 1 = .ok (.ifCond .lt 9, 3) := by decide +kernel
theorem dX6_type_4 : decode cX6_type 4 = .ok (.iload_n 3, 1) := by decide +kernel
theorem dX6_type_5 : decode cX6_type 5 = .ok (.bipush 8, 2) := by decide +kernel
theorem dX6_type_7 : decode cX6_type 7 = .ok (.if_icmp .le 6, 3) := by decide +kernel
theorem dX6_type_10 : decode cX6_type 10 = .ok (.bipush (-2), 2) := by decide +kernel
theorem dX6_type_12 : decode cX6_type 12 = .ok (.ireturn, 1) := by decide +kernel
theorem dX6_type_13 : decode cX6_type 13 = .ok (.aload_n 0, 1) := by decide +kernel
theorem dX6_type_14 : decode cX6_type 14 = .ok (.getfield 30, 3) := by decide +kernel
theorem dX6_type_17 : decode cX6_type 17 = .ok (.getfield 154, 3) := by decide +kernel
theorem dX6_type_20 : decode cX6_type 20 = .ok (.iload_n 3, 1) := by decide +kernel
theorem dX6_type_21 : decode cX6_type 21 = .ok (.iadd, 1) := by decide +kernel
theorem dX6_type_22 : decode cX6_type 22 = .ok (.ldc 153, 2) := by decide +kernel
theorem dX6_type_24 : decode cX6_type 24 = .ok (.if_icmp .le 6, 3) := by decide +kernel
theorem dX6_type_27 : decode cX6_type 27 = .ok (.bipush (-4), 2) := by decide +kernel
theorem dX6_type_29 : decode cX6_type 29 = .ok (.ireturn, 1) := by decide +kernel
theorem dX6_type_30 : decode cX6_type 30 = .ok (.aload_n 0, 1) := by decide +kernel
theorem dX6_type_31 : decode cX6_type 31 = .ok (.getfield 30, 3) := by decide +kernel
theorem dX6_type_34 : decode cX6_type 34 = .ok (.lload_n 1, 1) := by decide +kernel
theorem dX6_type_35 : decode cX6_type 35 = .ok (.iload_n 3, 1) := by decide +kernel
theorem dX6_type_36 : decode cX6_type 36 = .ok (.invokevirtual 169, 3) := by decide +kernel
theorem dX6_type_39 : decode cX6_type 39 = .ok (.aload_n 0, 1) := by decide +kernel
theorem dX6_type_40 : decode cX6_type 40 = .ok (.getfield 30, 3) := by decide +kernel
theorem dX6_type_43 : decode cX6_type 43 = .ok (.getfield 154, 3) := by decide +kernel
theorem dX6_type_46 : decode cX6_type 46 = .ok (.ireturn, 1) := by decide +kernel
set_option maxRecDepth 20000 in
theorem ggX6_at_X0_lacks : GoodIn wsX6_at wsX0_lacks := goodIn_r _ [6, 7, 19, 20] rfl (by decide +kernel)
set_option maxRecDepth 20000 in
theorem gX6_at_X0_lacks : GoodIn wsX6_at (wsV RX6 173 RX0 yX0_lacks wsX0_lacks) := goodIn_app (goodIn_of _ (by decide +kernel)) ggX6_at_X0_lacks
set_option maxRecDepth 20000 in
theorem ggX6_at_X0_byteAt : GoodIn wsX6_at wsX0_byteAt := goodIn_r _ [11, 12, 19, 20] rfl (by decide +kernel)
set_option maxRecDepth 20000 in
theorem gX6_at_X0_byteAt : GoodIn wsX6_at (wsV RX6 176 RX0 yX0_byteAt wsX0_byteAt) := goodIn_app (goodIn_of _ (by decide +kernel)) ggX6_at_X0_byteAt
theorem dX6_at_0 : decode cX6_at 0 = .ok (.aload_n 0, 1) := by decide +kernel
theorem dX6_at_1 : decode cX6_at 1 = .ok (.getfield 30, 3) := by decide +kernel
theorem dX6_at_4 : decode cX6_at 4 = .ok (.iload_n 1, 1) := by decide +kernel
theorem dX6_at_5 : decode cX6_at 5 = .ok (.invokevirtual 173, 3) := by decide +kernel
theorem dX6_at_8 : decode cX6_at 8 = .ok (.ifCond .eq 8, 3) := by decide +kernel
theorem dX6_at_11 : decode cX6_at 11 = .ok (.bipush (-2), 2) := by decide +kernel
theorem dX6_at_13 : decode cX6_at 13 = .ok (.goto 11, 3) := by decide +kernel
theorem dX6_at_16 : decode cX6_at 16 = .ok (.aload_n 0, 1) := by decide +kernel
theorem dX6_at_17 : decode cX6_at 17 = .ok (.getfield 30, 3) := by decide +kernel
theorem dX6_at_20 : decode cX6_at 20 = .ok (.iload_n 1, 1) := by decide +kernel
theorem dX6_at_21 : decode cX6_at 21 = .ok (.invokevirtual 176, 3) := by decide +kernel
theorem dX6_at_24 : decode cX6_at 24 = .ok (.ireturn, 1) := by decide +kernel
set_option maxRecDepth 20000 in
theorem ggX6_alter_X0_lacks : GoodIn wsX6_alter wsX0_lacks := goodIn_r _ [7, 8, 20, 21] rfl (by decide +kernel)
set_option maxRecDepth 20000 in
theorem gX6_alter_X0_lacks : GoodIn wsX6_alter (wsV RX6 173 RX0 yX0_lacks wsX0_lacks) := goodIn_app (goodIn_of _ (by decide +kernel)) ggX6_alter_X0_lacks
set_option maxRecDepth 20000 in
theorem ggX6_alter_X0_byteAt : GoodIn wsX6_alter wsX0_byteAt := goodIn_r _ [12, 13, 20, 21] rfl (by decide +kernel)
set_option maxRecDepth 20000 in
theorem gX6_alter_X0_byteAt : GoodIn wsX6_alter (wsV RX6 176 RX0 yX0_byteAt wsX0_byteAt) := goodIn_app (goodIn_of _ (by decide +kernel)) ggX6_alter_X0_byteAt
theorem dX6_alter_0 : decode cX6_alter 0 = .ok (.aload_n 0, 1) := by decide +kernel
theorem dX6_alter_1 : decode cX6_alter 1 = .ok (.getfield 30, 3) := by decide +kernel
theorem dX6_alter_4 : decode cX6_alter 4 = .ok (.iload_n 1, 1) := by decide +kernel
theorem dX6_alter_5 : decode cX6_alter 5 = .ok (.invokevirtual 173, 3) := by decide +kernel
theorem dX6_alter_8 : decode cX6_alter 8 = .ok (.ifCond .ne 14, 3) := by decide +kernel
theorem dX6_alter_11 : decode cX6_alter 11 = .ok (.iload_n 2, 1) := by decide +kernel
theorem dX6_alter_12 : decode cX6_alter 12 = .ok (.ifCond .lt 10, 3) := by decide +kernel
theorem dX6_alter_15 : decode cX6_alter 15 = .ok (.iload_n 2, 1) := by decide +kernel
theorem dX6_alter_16 : decode cX6_alter 16 = .ok (.sipush 255, 3) := by decide +kernel
theorem dX6_alter_19 : decode cX6_alter 19 = .ok (.if_icmp .le 6, 3) := by decide +kernel
theorem dX6_alter_22 : decode cX6_alter 22 = .ok (.bipush (-2), 2) := by decide +kernel
theorem dX6_alter_24 : decode cX6_alter 24 = .ok (.ireturn, 1) := by decide +kernel
theorem dX6_alter_25 : decode cX6_alter 25 = .ok (.aload_n 0, 1) := by decide +kernel
theorem dX6_alter_26 : decode cX6_alter 26 = .ok (.getfield 30, 3) := by decide +kernel
theorem dX6_alter_29 : decode cX6_alter 29 = .ok (.iload_n 1, 1) := by decide +kernel
theorem dX6_alter_30 : decode cX6_alter 30 = .ok (.invokevirtual 176, 3) := by decide +kernel
theorem dX6_alter_33 : decode cX6_alter 33 = .ok (.istore_n 3, 1) := by decide +kernel
theorem dX6_alter_34 : decode cX6_alter 34 = .ok (.aload_n 0, 1) := by decide +kernel
theorem dX6_alter_35 : decode cX6_alter 35 = .ok (.getfield 30, 3) := by decide +kernel
theorem dX6_alter_38 : decode cX6_alter 38 = .ok (.getfield 179, 3) := by decide +kernel
theorem dX6_alter_41 : decode cX6_alter 41 = .ok (.iload_n 1, 1) := by decide +kernel
theorem dX6_alter_42 : decode cX6_alter 42 = .ok (.iload_n 2, 1) := by decide +kernel
theorem dX6_alter_43 : decode cX6_alter 43 = .ok (.i2b, 1) := by decide +kernel
theorem dX6_alter_44 : decode cX6_alter 44 = .ok (.bastore, 1) := by decide +kernel
theorem dX6_alter_45 : decode cX6_alter 45 = .ok (.iload_n 3, 1) := by decide +kernel
theorem dX6_alter_46 : decode cX6_alter 46 = .ok (.ireturn, 1) := by decide +kernel
theorem dX6_work_0 : decode cX6_work 0 = .ok (.aload_n 0, 1) := by decide +kernel
theorem dX6_work_1 : decode cX6_work 1 = .ok (.getfield 41, 3) := by decide +kernel
theorem dX6_work_4 : decode cX6_work 4 = .ok (.ireturn, 1) := by decide +kernel
theorem dX6_size_0 : decode cX6_size 0 = .ok (.aload_n 0, 1) := by decide +kernel
theorem dX6_size_1 : decode cX6_size 1 = .ok (.getfield 30, 3) := by decide +kernel
theorem dX6_size_4 : decode cX6_size 4 = .ok (.getfield 154, 3) := by decide +kernel
theorem dX6_size_7 : decode cX6_size 7 = .ok (.ireturn, 1) := by decide +kernel
set_option maxRecDepth 20000 in
theorem ggX6_digest_X2_digestSetFrom : GoodIn wsX6_digest wsX2_digestSetFrom := goodIn_r _ [7, 8, 9, 10, 11, 12, 13, 6, 14, 15, 16, 17, 18, 19, 20, 21, 22, 23, 24, 25, 26, 27, 28, 29, 30, 31, 32, 33, 34, 35, 36, 37, 44, 45, 46, 47, 48, 49] rfl (by decide +kernel)
set_option maxRecDepth 20000 in
theorem gX6_digest_X2_digestSetFrom : GoodIn wsX6_digest (wsV RX6 185 RX2 yX2_digestSetFrom wsX2_digestSetFrom) := goodIn_app (goodIn_of _ (by decide +kernel)) ggX6_digest_X2_digestSetFrom
theorem dX6_digest_0 : decode cX6_digest 0 = .ok (.ldc2_w 183, 3) := by decide +kernel
theorem dX6_digest_3 : decode cX6_digest 3 = .ok (.lstore_n 1, 1) := by decide +kernel
theorem dX6_digest_4 : decode cX6_digest 4 = .ok (.iconst 0, 1) := by decide +kernel
theorem dX6_digest_5 : decode cX6_digest 5 = .ok (.istore_n 3, 1) := by decide +kernel
theorem dX6_digest_6 : decode cX6_digest 6 = .ok (.iload_n 3, 1) := by decide +kernel
theorem dX6_digest_7 : decode cX6_digest 7 = .ok (.bipush 8, 2) := by decide +kernel
theorem dX6_digest_9 : decode cX6_digest 9 = .ok (.if_icmp .ge 20, 3) := by decide +kernel
theorem dX6_digest_12 : decode cX6_digest 12 = .ok (.aload_n 0, 1) := by decide +kernel
theorem dX6_digest_13 : decode cX6_digest 13 = .ok (.getfield 11, 3) := by decide +kernel
theorem dX6_digest_16 : decode cX6_digest 16 = .ok (.iload_n 3, 1) := by decide +kernel
theorem dX6_digest_17 : decode cX6_digest 17 = .ok (.aaload, 1) := by decide +kernel
theorem dX6_digest_18 : decode cX6_digest 18 = .ok (.lload_n 1, 1) := by decide +kernel
theorem dX6_digest_19 : decode cX6_digest 19 = .ok (.invokevirtual 185, 3) := by decide +kernel
theorem dX6_digest_22 : decode cX6_digest 22 = .ok (.lstore_n 1, 1) := by decide +kernel
theorem dX6_digest_23 : decode cX6_digest 23 = .ok (.iinc 3 1, 3) := by decide +kernel
theorem dX6_digest_26 : decode cX6_digest 26 = .ok (.goto (-20), 3) := by decide +kernel
theorem dX6_digest_29 : decode cX6_digest 29 = .ok (.lload_n 1, 1) := by decide +kernel
theorem dX6_digest_30 : decode cX6_digest 30 = .ok (.lreturn, 1) := by decide +kernel
theorem dX6_isNoSet_0 : decode cX6_isNoSet 0 = .ok (.iload_n 0, 1) := by decide +kernel
theorem dX6_isNoSet_1 : decode cX6_isNoSet 1 = .ok (.ifCond .lt 9, 3) := by decide +kernel
theorem dX6_isNoSet_4 : decode cX6_isNoSet 4 = .ok (.iload_n 0, 1) := by decide +kernel
theorem dX6_isNoSet_5 : decode cX6_isNoSet 5 = .ok (.bipush 8, 2) := by decide +kernel
theorem dX6_isNoSet_7 : decode cX6_isNoSet 7 = .ok (.if_icmp .lt 7, 3) := by decide +kernel
theorem dX6_isNoSet_10 : decode cX6_isNoSet 10 = .ok (.iconst 1, 1) := by decide +kernel
theorem dX6_isNoSet_11 : decode cX6_isNoSet 11 = .ok (.goto 4, 3) := by decide +kernel
theorem dX6_isNoSet_14 : decode cX6_isNoSet 14 = .ok (.iconst 0, 1) := by decide +kernel
theorem dX6_isNoSet_15 : decode cX6_isNoSet 15 = .ok (.ireturn, 1) := by decide +kernel
theorem dX6_isNoHalf_0 : decode cX6_isNoHalf 0 = .ok (.iload_n 0, 1) := by decide +kernel
theorem dX6_isNoHalf_1 : decode cX6_isNoHalf 1 = .ok (.ifCond .lt 9, 3) := by decide +kernel
theorem dX6_isNoHalf_4 : decode cX6_isNoHalf 4 = .ok (.iload_n 0, 1) := by decide +kernel
theorem dX6_isNoHalf_5 : decode cX6_isNoHalf 5 = .ok (.ldc 189, 2) := by decide +kernel
theorem dX6_isNoHalf_7 : decode cX6_isNoHalf 7 = .ok (.if_icmp .le 7, 3) := by decide +kernel
theorem dX6_isNoHalf_10 : decode cX6_isNoHalf 10 = .ok (.iconst 1, 1) := by decide +kernel
theorem dX6_isNoHalf_11 : decode cX6_isNoHalf 11 = .ok (.goto 4, 3) := by decide +kernel
theorem dX6_isNoHalf_14 : decode cX6_isNoHalf 14 = .ok (.iconst 0, 1) := by decide +kernel
theorem dX6_isNoHalf_15 : decode cX6_isNoHalf 15 = .ok (.ireturn, 1) := by decide +kernel
theorem dX6_keyOf_0 : decode cX6_keyOf 0 = .ok (.iload_n 0, 1) := by decide +kernel
theorem dX6_keyOf_1 : decode cX6_keyOf 1 = .ok (.bipush 16, 2) := by decide +kernel
theorem dX6_keyOf_3 : decode cX6_keyOf 3 = .ok (.iushr, 1) := by decide +kernel
theorem dX6_keyOf_4 : decode cX6_keyOf 4 = .ok (.ireturn, 1) := by decide +kernel
theorem dX6_lowOf_0 : decode cX6_lowOf 0 = .ok (.iload_n 0, 1) := by decide +kernel
theorem dX6_lowOf_1 : decode cX6_lowOf 1 = .ok (.ldc 189, 2) := by decide +kernel
theorem dX6_lowOf_3 : decode cX6_lowOf 3 = .ok (.iand, 1) := by decide +kernel
theorem dX6_lowOf_4 : decode cX6_lowOf 4 = .ok (.ireturn, 1) := by decide +kernel
theorem dX6_takeWork_0 : decode cX6_takeWork 0 = .ok (.iload_n 1, 1) := by decide +kernel
theorem dX6_takeWork_1 : decode cX6_takeWork 1 = .ok (.aload_n 0, 1) := by decide +kernel
theorem dX6_takeWork_2 : decode cX6_takeWork 2 = .ok (.getfield 41, 3) := by decide +kernel
theorem dX6_takeWork_5 : decode cX6_takeWork 5 = .ok (.if_icmp .le 5, 3) := by decide +kernel
theorem dX6_takeWork_8 : decode cX6_takeWork 8 = .ok (.iconst 0, 1) := by decide +kernel
theorem dX6_takeWork_9 : decode cX6_takeWork 9 = .ok (.ireturn, 1) := by decide +kernel
theorem dX6_takeWork_10 : decode cX6_takeWork 10 = .ok (.aload_n 0, 1) := by decide +kernel
theorem dX6_takeWork_11 : decode cX6_takeWork 11 = .ok (.dup, 1) := by decide +kernel
theorem dX6_takeWork_12 : decode cX6_takeWork 12 = .ok (.getfield 41, 3) := by decide +kernel
theorem dX6_takeWork_15 : decode cX6_takeWork 15 = .ok (.iload_n 1, 1) := by decide +kernel
theorem dX6_takeWork_16 : decode cX6_takeWork 16 = .ok (.isub, 1) := by decide +kernel
theorem dX6_takeWork_17 : decode cX6_takeWork 17 = .ok (.putfield 41, 3) := by decide +kernel
theorem dX6_takeWork_20 : decode cX6_takeWork 20 = .ok (.iconst 1, 1) := by decide +kernel
theorem dX6_takeWork_21 : decode cX6_takeWork 21 = .ok (.ireturn, 1) := by decide +kernel
