theorem dX7_init_0 : decode cX7_init 0 = .ok (.aload_n 0, 1) := by decide +kernel
theorem dX7_init_1 : decode cX7_init 1 = .ok (.invokespecial 1, 3) := by decide +kernel
theorem dX7_init_4 : decode cX7_init 4 = .ok (.aload_n 0, 1) := by decide +kernel
theorem dX7_init_5 : decode cX7_init 5 = .ok (.bipush 17, 2) := by decide +kernel
theorem dX7_init_7 : decode cX7_init 7 = .ok (.newarray .int, 2) := by decide +kernel
theorem dX7_init_9 : decode cX7_init 9 = .ok (.putfield 7, 3) := by decide +kernel
theorem dX7_init_12 : decode cX7_init 12 = .ok (.aload_n 0, 1) := by decide +kernel
theorem dX7_init_13 : decode cX7_init 13 = .ok (.bipush 102, 2) := by decide +kernel
theorem dX7_init_15 : decode cX7_init 15 = .ok (.newarray .int, 2) := by decide +kernel
theorem dX7_init_17 : decode cX7_init 17 = .ok (.putfield 13, 3) := by decide +kernel
theorem dX7_init_20 : decode cX7_init 20 = .ok (.aload_n 0, 1) := by decide +kernel
theorem dX7_init_21 : decode cX7_init 21 = .ok (.bipush 102, 2) := by decide +kernel
theorem dX7_init_23 : decode cX7_init 23 = .ok (.newarray .int, 2) := by decide +kernel
theorem dX7_init_25 : decode cX7_init 25 = .ok (.putfield 16, 3) := by decide +kernel
theorem dX7_init_28 : decode cX7_init 28 = .ok (.aload_n 0, 1) := by decide +kernel
theorem dX7_init_29 : decode cX7_init 29 = .ok (.bipush 102, 2) := by decide +kernel
theorem dX7_init_31 : decode cX7_init 31 = .ok (.newarray .int, 2) := by decide +kernel
theorem dX7_init_33 : decode cX7_init 33 = .ok (.putfield 19, 3) := by decide +kernel
theorem dX7_init_36 : decode cX7_init 36 = .ok (.aload_n 0, 1) := by decide +kernel
theorem dX7_init_37 : decode cX7_init 37 = .ok (.ldc 22, 2) := by decide +kernel
theorem dX7_init_39 : decode cX7_init 39 = .ok (.newarray .long, 2) := by decide +kernel
theorem dX7_init_41 : decode cX7_init 41 = .ok (.putfield 23, 3) := by decide +kernel
theorem dX7_init_44 : decode cX7_init 44 = .ok (.aload_n 0, 1) := by decide +kernel
theorem dX7_init_45 : decode cX7_init 45 = .ok (.sipush 300, 3) := by decide +kernel
theorem dX7_init_48 : decode cX7_init 48 = .ok (.putfield 27, 3) := by decide +kernel
theorem dX7_init_51 : decode cX7_init 51 = .ok (.aload_n 0, 1) := by decide +kernel
theorem dX7_init_52 : decode cX7_init 52 = .ok (.ldc 31, 2) := by decide +kernel
theorem dX7_init_54 : decode cX7_init 54 = .ok (.newarray .int, 2) := by decide +kernel
theorem dX7_init_56 : decode cX7_init 56 = .ok (.putfield 32, 3) := by decide +kernel
theorem dX7_init_59 : decode cX7_init 59 = .ok (.aload_n 0, 1) := by decide +kernel
theorem dX7_init_60 : decode cX7_init 60 = .ok (.bipush 6, 2) := by decide +kernel
theorem dX7_init_62 : decode cX7_init 62 = .ok (.newarray .int, 2) := by decide +kernel
theorem dX7_init_64 : decode cX7_init 64 = .ok (.putfield 35, 3) := by decide +kernel
theorem dX7_init_67 : decode cX7_init 67 = .ok (.aload_n 0, 1) := by decide +kernel
theorem dX7_init_68 : decode cX7_init 68 = .ok (.bipush 6, 2) := by decide +kernel
theorem dX7_init_70 : decode cX7_init 70 = .ok (.newarray .long, 2) := by decide +kernel
theorem dX7_init_72 : decode cX7_init 72 = .ok (.putfield 38, 3) := by decide +kernel
theorem dX7_init_75 : decode cX7_init 75 = .ok (.aload_n 0, 1) := by decide +kernel
theorem dX7_init_76 : decode cX7_init 76 = .ok (.bipush 6, 2) := by decide +kernel
theorem dX7_init_78 : decode cX7_init 78 = .ok (.newarray .int, 2) := by decide +kernel
theorem dX7_init_80 : decode cX7_init 80 = .ok (.putfield 41, 3) := by decide +kernel
theorem dX7_init_83 : decode cX7_init 83 = .ok (.return_, 1) := by decide +kernel
theorem dX7_in_0 : decode cX7_in 0 = .ok (.lload_n 0, 1) := by decide +kernel
theorem dX7_in_1 : decode cX7_in 1 = .ok (.lload_n 2, 1) := by decide +kernel
theorem dX7_in_2 : decode cX7_in 2 = .ok (.lcmp, 1) := by decide +kernel
theorem dX7_in_3 : decode cX7_in 3 = .ok (.ifCond .lt 14, 3) := by decide +kernel
theorem dX7_in_6 : decode cX7_in 6 = .ok (.lload_n 0, 1) := by decide +kernel
theorem dX7_in_7 : decode cX7_in 7 = .ok (.lload 4, 2) := by decide +kernel
theorem dX7_in_9 : decode cX7_in 9 = .ok (.lcmp, 1) := by decide +kernel
theorem dX7_in_10 : decode cX7_in 10 = .ok (.ifCond .gt 7, 3) := by decide +kernel
theorem dX7_in_13 : decode cX7_in 13 = .ok (.iconst 1, 1) := by decide +kernel
theorem dX7_in_14 : decode cX7_in 14 = .ok (.goto 4, 3) := by decide +kernel
theorem dX7_in_17 : decode cX7_in 17 = .ok (.iconst 0, 1) := by decide +kernel
theorem dX7_in_18 : decode cX7_in 18 = .ok (.ireturn, 1) := by decide +kernel
set_option maxRecDepth 20000 in
theorem ggX7_isSet_X7_in : GoodIn wsX7_isSet wsX7_in := goodIn_r _ [5] rfl (by decide +kernel)
set_option maxRecDepth 20000 in
theorem gX7_isSet_X7_in : GoodIn wsX7_isSet (va_wsS RX7 46 yX7_in wsX7_in) := goodIn_app (goodIn_of _ (by decide +kernel)) ggX7_isSet_X7_in
theorem dX7_isSet_0 : decode cX7_isSet 0 = .ok (.iload_n 0, 1) := by decide +kernel
theorem dX7_isSet_1 : decode cX7_isSet 1 = .ok (.i2l, 1) := by decide +kernel
theorem dX7_isSet_2 : decode cX7_isSet 2 = .ok (.lconst 0, 1) := by decide +kernel
theorem dX7_isSet_3 : decode cX7_isSet 3 = .ok (.ldc2_w 44, 3) := by decide +kernel
theorem dX7_isSet_6 : decode cX7_isSet 6 = .ok (.invokestatic 46, 3) := by decide +kernel
theorem dX7_isSet_9 : decode cX7_isSet 9 = .ok (.ireturn, 1) := by decide +kernel
set_option maxRecDepth 20000 in
theorem ggX7_isLow_X7_in : GoodIn wsX7_isLow wsX7_in := goodIn_r _ [5] rfl (by decide +kernel)
set_option maxRecDepth 20000 in
theorem gX7_isLow_X7_in : GoodIn wsX7_isLow (va_wsS RX7 46 yX7_in wsX7_in) := goodIn_app (goodIn_of _ (by decide +kernel)) ggX7_isLow_X7_in
theorem dX7_isLow_0 : decode cX7_isLow 0 = .ok (.iload_n 0, 1) := by decide +kernel
theorem dX7_isLow_1 : decode cX7_isLow 1 = .ok (.i2l, 1) := by decide +kernel
theorem dX7_isLow_2 : decode cX7_isLow 2 = .ok (.lconst 0, 1) := by decide +kernel
theorem dX7_isLow_3 : decode cX7_isLow 3 = .ok (.ldc2_w 50, 3) := by decide +kernel
theorem dX7_isLow_6 : decode cX7_isLow 6 = .ok (.invokestatic 46, 3) := by decide +kernel
theorem dX7_isLow_9 : decode cX7_isLow 9 = .ok (.ireturn, 1) := by decide +kernel
theorem dX7_bitsOf_0 : decode cX7_bitsOf 0 = .ok (.iconst 0, 1) := by decide +kernel
theorem dX7_bitsOf_1 : decode cX7_bitsOf 1 = .ok (.istore_n 2, 1) := by decide +kernel
theorem dX7_bitsOf_2 : decode cX7_bitsOf 2 = .ok (.lload_n 0, 1) := by decide +kernel
theorem dX7_bitsOf_3 : decode cX7_bitsOf 3 = .ok (.lstore_n 3, 1) := by decide +kernel
theorem dX7_bitsOf_4 : decode cX7_bitsOf 4 = .ok (.lload_n 3, 1) := by decide +kernel
theorem dX7_bitsOf_5 : decode cX7_bitsOf 5 = .ok (.lconst 0, 1) := by decide +kernel
theorem dX7_bitsOf_6 : decode cX7_bitsOf 6 = .ok (.lcmp, 1) := by decide +kernel
theorem dX7_bitsOf_7 : decode cX7_bitsOf 7 = .ok (.ifCond .eq 15, 3) := by decide +kernel
theorem dX7_bitsOf_10 : decode cX7_bitsOf 10 = .ok (.lload_n 3, 1) := by decide +kernel
theorem dX7_bitsOf_11 : decode cX7_bitsOf 11 = .ok (.lload_n 3, 1) := by decide +kernel
theorem dX7_bitsOf_12 : decode cX7_bitsOf 12 = .ok (.lconst 1, 1) := by decide +kernel
theorem dX7_bitsOf_13 : decode cX7_bitsOf 13 = .ok (.lsub, 1) := by decide +kernel
theorem dX7_bitsOf_14 : decode cX7_bitsOf 14 = .ok (.land, 1) := by decide +kernel
theorem dX7_bitsOf_15 : decode cX7_bitsOf 15 = .ok (.lstore_n 3, 1) := by decide +kernel
theorem dX7_bitsOf_16 : decode cX7_bitsOf 16 = .ok (.iinc 2 1, 3) := by decide +kernel
theorem dX7_bitsOf_19 : decode cX7_bitsOf 19 = .ok (.goto (-15), 3) := by decide +kernel
theorem dX7_bitsOf_22 : decode cX7_bitsOf 22 = .ok (.iload_n 2, 1) := by decide +kernel
theorem dX7_bitsOf_23 : decode cX7_bitsOf 23 = .ok (.ireturn, 1) := by decide +kernel
theorem dX7_hasLow_0 : decode cX7_hasLow 0 = .ok (.aload_n 0, 1) := by decide +kernel
theorem dX7_hasLow_1 : decode cX7_hasLow 1 = .ok (.getfield 23, 3) := by decide +kernel
theorem dX7_hasLow_4 : decode cX7_hasLow 4 = .ok (.sipush 1024, 3) := by decide +kernel
theorem dX7_hasLow_7 : decode cX7_hasLow 7 = .ok (.iload_n 1, 1) := by decide +kernel
theorem dX7_hasLow_8 : decode cX7_hasLow 8 = .ok (.imul, 1) := by decide +kernel
theorem dX7_hasLow_9 : decode cX7_hasLow 9 = .ok (.iload_n 2, 1) := by decide +kernel
theorem dX7_hasLow_10 : decode cX7_hasLow 10 = .ok (.bipush 64, 2) := by decide +kernel
theorem dX7_hasLow_12 : decode cX7_hasLow 12 = .ok (.idiv, 1) := by decide +kernel
theorem dX7_hasLow_13 : decode cX7_hasLow 13 = .ok (.iadd, 1) := by decide +kernel
theorem dX7_hasLow_14 : decode cX7_hasLow 14 = .ok (.laload, 1) := by decide +kernel
theorem dX7_hasLow_15 : decode cX7_hasLow 15 = .ok (.iload_n 2, 1) := by decide +kernel
theorem dX7_hasLow_16 : decode cX7_hasLow 16 = .ok (.bipush 64, 2) := by decide +kernel
theorem dX7_hasLow_18 : decode cX7_hasLow 18 = .ok (.irem, 1) := by decide +kernel
theorem dX7_hasLow_19 : decode cX7_hasLow 19 = .ok (.lushr, 1) := by decide +kernel
theorem dX7_hasLow_20 : decode cX7_hasLow 20 = .ok (.lconst 1, 1) := by decide +kernel
theorem dX7_hasLow_21 : decode cX7_hasLow 21 = .ok (.land, 1) := by decide +kernel
theorem dX7_hasLow_22 : decode cX7_hasLow 22 = .ok (.lconst 1, 1) := by decide +kernel
theorem dX7_hasLow_23 : decode cX7_hasLow 23 = .ok (.lcmp, 1) := by decide +kernel
theorem dX7_hasLow_24 : decode cX7_hasLow 24 = .ok (.ifCond .ne 7, 3) := by decide +kernel
theorem dX7_hasLow_27 : decode cX7_hasLow 27 = .ok (.iconst 1, 1) := by decide +kernel
theorem dX7_hasLow_28 : decode cX7_hasLow 28 = .ok (.goto 4, 3) := by decide +kernel
theorem dX7_hasLow_31 : decode cX7_hasLow 31 = .ok (.iconst 0, 1) := by decide +kernel
theorem dX7_hasLow_32 : decode cX7_hasLow 32 = .ok (.ireturn, 1) := by decide +kernel
theorem dX7_turn_0 : decode cX7_turn 0 = .ok (.aload_n 0, 1) := by decide +kernel
theorem dX7_turn_1 : decode cX7_turn 1 = .ok (.getfield 23, 3) := by decide +kernel
theorem dX7_turn_4 : decode cX7_turn 4 = .ok (.sipush 1024, 3) := by decide +kernel
theorem dX7_turn_7 : decode cX7_turn 7 = .ok (.iload_n 1, 1) := by decide +kernel
theorem dX7_turn_8 : decode cX7_turn 8 = .ok (.imul, 1) := by decide +kernel
theorem dX7_turn_9 : decode cX7_turn 9 = .ok (.iload_n 2, 1) := by decide +kernel
theorem dX7_turn_10 : decode cX7_turn 10 = .ok (.bipush 64, 2) := by decide +kernel
theorem dX7_turn_12 : decode cX7_turn 12 = .ok (.idiv, 1) := by decide +kernel
theorem dX7_turn_13 : decode cX7_turn 13 = .ok (.iadd, 1) := by decide +kernel
theorem dX7_turn_14 : decode cX7_turn 14 = .ok (.aload_n 0, 1) := by decide +kernel
theorem dX7_turn_15 : decode cX7_turn 15 = .ok (.getfield 23, 3) := by decide +kernel
theorem dX7_turn_18 : decode cX7_turn 18 = .ok (.sipush 1024, 3) := by decide +kernel
theorem dX7_turn_21 : decode cX7_turn 21 = .ok (.iload_n 1, 1) := by decide +kernel
theorem dX7_turn_22 : decode cX7_turn 22 = .ok (.imul, 1) := by decide +kernel
theorem dX7_turn_23 : decode cX7_turn 23 = .ok (.iload_n 2, 1) := by decide +kernel
theorem dX7_turn_24 : decode cX7_turn 24 = .ok (.bipush 64, 2) := by decide +kernel
theorem dX7_turn_26 : decode cX7_turn 26 = .ok (.idiv, 1) := by decide +kernel
theorem dX7_turn_27 : decode cX7_turn 27 = .ok (.iadd, 1) := by decide +kernel
theorem dX7_turn_28 : decode cX7_turn 28 = .ok (.laload, 1) := by decide +kernel
theorem dX7_turn_29 : decode cX7_turn 29 = .ok (.lconst 1, 1) := by decide +kernel
theorem dX7_turn_30 : decode cX7_turn 30 = .ok (.iload_n 2, 1) := by decide +kernel
theorem dX7_turn_31 : decode cX7_turn 31 = .ok (.bipush 64, 2) := by decide +kernel
theorem dX7_turn_33 : decode cX7_turn 33 = .ok (.irem, 1) := by decide +kernel
theorem dX7_turn_34 : decode cX7_turn 34 = .ok (.lshl, 1) := by decide +kernel
theorem dX7_turn_35 : decode cX7_turn 35 = .ok (.lxor, 1) := by decide +kernel
theorem dX7_turn_36 : decode cX7_turn 36 = .ok (.lastore, 1) := by decide +kernel
theorem dX7_turn_37 : decode cX7_turn 37 = .ok (.return_, 1) := by decide +kernel
theorem dX7_plainKind_0 : decode cX7_plainKind 0 = .ok (.aload_n 0, 1) := by decide +kernel
theorem dX7_plainKind_1 : decode cX7_plainKind 1 = .ok (.getfield 19, 3) := by decide +kernel
theorem dX7_plainKind_4 : decode cX7_plainKind 4 = .ok (.iload_n 1, 1) := by decide +kernel
theorem dX7_plainKind_5 : decode cX7_plainKind 5 = .ok (.iaload, 1) := by decide +kernel
theorem dX7_plainKind_6 : decode cX7_plainKind 6 = .ok (.sipush 4096, 3) := by decide +kernel
theorem dX7_plainKind_9 : decode cX7_plainKind 9 = .ok (.if_icmp .gt 7, 3) := by decide +kernel
theorem dX7_plainKind_12 : decode cX7_plainKind 12 = .ok (.iconst 0, 1) := by decide +kernel
theorem dX7_plainKind_13 : decode cX7_plainKind 13 = .ok (.goto 4, 3) := by decide +kernel
theorem dX7_plainKind_16 : decode cX7_plainKind 16 = .ok (.iconst 1, 1) := by decide +kernel
theorem dX7_plainKind_17 : decode cX7_plainKind 17 = .ok (.ireturn, 1) := by decide +kernel
set_option maxRecDepth 20000 in
theorem ggX7_runsOf_X7_bitsOf : GoodIn wsX7_runsOf wsX7_bitsOf := goodIn_r _ [6] rfl (by decide +kernel)
set_option maxRecDepth 20000 in
theorem gX7_runsOf_X7_bitsOf : GoodIn wsX7_runsOf (va_wsS RX7 54 yX7_bitsOf wsX7_bitsOf) := goodIn_app (goodIn_of _ (by decide +kernel)) ggX7_runsOf_X7_bitsOf
theorem dX7_runsOf_0 : decode cX7_runsOf 0 = .ok (.iconst 0, 1) := by decide +kernel
theorem dX7_runsOf_1 : decode cX7_runsOf 1 = .ok (.istore_n 2, 1) := by decide +kernel
theorem dX7_runsOf_2 : decode cX7_runsOf 2 = .ok (.iconst 0, 1) := by decide +kernel
theorem dX7_runsOf_3 : decode cX7_runsOf 3 = .ok (.istore_n 3, 1) := by decide +kernel
theorem dX7_runsOf_4 : decode cX7_runsOf 4 = .ok (.iconst 0, 1) := by decide +kernel
theorem dX7_runsOf_5 : decode cX7_runsOf 5 = .ok (.istore 4, 2) := by decide +kernel
theorem dX7_runsOf_7 : decode cX7_runsOf 7 = .ok (.iload 4, 2) := by decide +kernel
theorem dX7_runsOf_9 : decode cX7_runsOf 9 = .ok (.sipush 1024, 3) := by decide +kernel
theorem dX7_runsOf_12 : decode cX7_runsOf 12 = .ok (.if_icmp .ge 70, 3) := by decide +kernel
theorem dX7_runsOf_15 : decode cX7_runsOf 15 = .ok (.aload_n 0, 1) := by decide +kernel
theorem dX7_runsOf_16 : decode cX7_runsOf 16 = .ok (.getfield 23, 3) := by decide +kernel
theorem dX7_runsOf_19 : decode cX7_runsOf 19 = .ok (.sipush 1024, 3) := by decide +kernel
theorem dX7_runsOf_22 : decode cX7_runsOf 22 = .ok (.iload_n 1, 1) := by decide +kernel
theorem dX7_runsOf_23 : decode cX7_runsOf 23 = .ok (.imul, 1) := by decide +kernel
theorem dX7_runsOf_24 : decode cX7_runsOf 24 = .ok (.iload 4, 2) := by decide +kernel
theorem dX7_runsOf_26 : decode cX7_runsOf 26 = .ok (.iadd, 1) := by decide +kernel
theorem dX7_runsOf_27 : decode cX7_runsOf 27 = .ok (.laload, 1) := by decide +kernel
theorem dX7_runsOf_28 : decode cX7_runsOf 28 = .ok (.lstore 5, 2) := by decide +kernel
theorem dX7_runsOf_30 : decode cX7_runsOf 30 = .ok (.iload_n 2, 1) := by decide +kernel
theorem dX7_runsOf_31 : decode cX7_runsOf 31 = .ok (.lload 5, 2) := by decide +kernel
theorem dX7_runsOf_33 : decode cX7_runsOf 33 = .ok (.lload 5, 2) := by decide +kernel
theorem dX7_runsOf_35 : decode cX7_runsOf 35 = .ok (.iconst 1, 1) := by decide +kernel
theorem dX7_runsOf_36 : decode cX7_runsOf 36 = .ok (.lshl, 1) := by decide +kernel
theorem dX7_runsOf_37 : decode cX7_runsOf 37 = .ok (.ldc2_w 52, 3) := by decide +kernel
theorem dX7_runsOf_40 : decode cX7_runsOf 40 = .ok (.lxor, 1) := by decide +kernel
theorem dX7_runsOf_41 : decode cX7_runsOf 41 = .ok (.land, 1) := by decide +kernel
theorem dX7_runsOf_42 : decode cX7_runsOf 42 = .ok (.invokestatic 54, 3) := by decide +kernel
theorem dX7_runsOf_45 : decode cX7_runsOf 45 = .ok (.iadd, 1) := by decide +kernel
theorem dX7_runsOf_46 : decode cX7_runsOf 46 = .ok (.istore_n 2, 1) := by decide +kernel
theorem dX7_runsOf_47 : decode cX7_runsOf 47 = .ok (.iload_n 3, 1) := by decide +kernel
theorem dX7_runsOf_48 : decode cX7_runsOf 48 = .ok (.ifCond .eq 15, 3) := by decide +kernel
theorem dX7_runsOf_51 : decode cX7_runsOf 51 = .ok (.lload 5, 2) := by decide +kernel
theorem dX7_runsOf_53 : decode cX7_runsOf 53 = .ok (.lconst 1, 1) := by decide +kernel
theorem dX7_runsOf_54 : decode cX7_runsOf 54 = .ok (.land, 1) := by decide +kernel
theorem dX7_runsOf_55 : decode cX7_runsOf 55 = .ok (.lconst 1, 1) := by decide +kernel
theorem dX7_runsOf_56 : decode cX7_runsOf 56 = .ok (.lcmp, 1) := by decide +kernel
theorem dX7_runsOf_57 : decode cX7_runsOf 57 = .ok (.ifCond .ne 6, 3) := by decide +kernel
theorem dX7_runsOf_60 : decode cX7_runsOf 60 = .ok (.iinc 2 (-1), 3) := by decide +kernel
theorem dX7_runsOf_63 : decode cX7_runsOf 63 = .ok (.lload 5, 2) := by decide +kernel
theorem dX7_runsOf_65 : decode cX7_runsOf 65 = .ok (.lconst 0, 1) := by decide +kernel
theorem dX7_runsOf_66 : decode cX7_runsOf 66 = .ok (.lcmp, 1) := by decide +kernel
theorem dX7_runsOf_67 : decode cX7_runsOf 67 = .ok (.ifCond .ge 7, 3) := by decide +kernel
theorem dX7_runsOf_70 : decode cX7_runsOf 70 = .ok (.iconst 1, 1) := by decide +kernel
theorem dX7_runsOf_71 : decode cX7_runsOf 71 = .ok (.goto 4, 3) := by decide +kernel
theorem dX7_runsOf_74 : decode cX7_runsOf 74 = .ok (.iconst 0, 1) := by decide +kernel
theorem dX7_runsOf_75 : decode cX7_runsOf 75 = .ok (.istore_n 3, 1) := by decide +kernel
theorem dX7_runsOf_76 : decode cX7_runsOf 76 = .ok (.iinc 4 1, 3) := by decide +kernel
theorem dX7_runsOf_79 : decode cX7_runsOf 79 = .ok (.goto (-72), 3) := by decide +kernel
theorem dX7_runsOf_82 : decode cX7_runsOf 82 = .ok (.iload_n 2, 1) := by decide +kernel
theorem dX7_runsOf_83 : decode cX7_runsOf 83 = .ok (.ireturn, 1) := by decide +kernel
theorem dX7_copy_0 : decode cX7_copy 0 = .ok (.aload_n 0, 1) := by decide +kernel
theorem dX7_copy_1 : decode cX7_copy 1 = .ok (.getfield 13, 3) := by decide +kernel
theorem dX7_copy_4 : decode cX7_copy 4 = .ok (.iload_n 2, 1) := by decide +kernel
theorem dX7_copy_5 : decode cX7_copy 5 = .ok (.aload_n 0, 1) := by decide +kernel
theorem dX7_copy_6 : decode cX7_copy 6 = .ok (.getfield 13, 3) := by decide +kernel
theorem dX7_copy_9 : decode cX7_copy 9 = .ok (.iload_n 1, 1) := by decide +kernel
theorem dX7_copy_10 : decode cX7_copy 10 = .ok (.iaload, 1) := by decide +kernel
theorem dX7_copy_11 : decode cX7_copy 11 = .ok (.iastore, 1) := by decide +kernel
theorem dX7_copy_12 : decode cX7_copy 12 = .ok (.aload_n 0, 1) := by decide +kernel
theorem dX7_copy_13 : decode cX7_copy 13 = .ok (.getfield 16, 3) := by decide +kernel
theorem dX7_copy_16 : decode cX7_copy 16 = .ok (.iload_n 2, 1) := by decide +kernel
theorem dX7_copy_17 : decode cX7_copy 17 = .ok (.aload_n 0, 1) := by decide +kernel
theorem dX7_copy_18 : decode cX7_copy 18 = .ok (.getfield 16, 3) := by decide +kernel
theorem dX7_copy_21 : decode cX7_copy 21 = .ok (.iload_n 1, 1) := by decide +kernel
theorem dX7_copy_22 : decode cX7_copy 22 = .ok (.iaload, 1) := by decide +kernel
theorem dX7_copy_23 : decode cX7_copy 23 = .ok (.iastore, 1) := by decide +kernel
theorem dX7_copy_24 : decode cX7_copy 24 = .ok (.aload_n 0, 1) := by decide +kernel
theorem dX7_copy_25 : decode cX7_copy 25 = .ok (.getfield 19, 3) := by decide +kernel
theorem dX7_copy_28 : decode cX7_copy 28 = .ok (.iload_n 2, 1) := by decide +kernel
theorem dX7_copy_29 : decode cX7_copy 29 = .ok (.aload_n 0, 1) := by decide +kernel
theorem dX7_copy_30 : decode cX7_copy 30 = .ok (.getfield 19, 3) := by decide +kernel
theorem dX7_copy_33 : decode cX7_copy 33 = .ok (.iload_n 1, 1) := by decide +kernel
theorem dX7_copy_34 : decode cX7_copy 34 = .ok (.iaload, 1) := by decide +kernel
theorem dX7_copy_35 : decode cX7_copy 35 = .ok (.iastore, 1) := by decide +kernel
theorem dX7_copy_36 : decode cX7_copy 36 = .ok (.iconst 0, 1) := by decide +kernel
theorem dX7_copy_37 : decode cX7_copy 37 = .ok (.istore_n 3, 1) := by decide +kernel
theorem dX7_copy_38 : decode cX7_copy 38 = .ok (.iload_n 3, 1) := by decide +kernel
theorem dX7_copy_39 : decode cX7_copy 39 = .ok (.sipush 1024, 3) := by decide +kernel
theorem dX7_copy_42 : decode cX7_copy 42 = .ok (.if_icmp .ge 33, 3) := by decide +kernel
theorem dX7_copy_45 : decode cX7_copy 45 = .ok (.aload_n 0, 1) := by decide +kernel
theorem dX7_copy_46 : decode cX7_copy 46 = .ok (.getfield 23, 3) := by decide +kernel
theorem dX7_copy_49 : decode cX7_copy 49 = .ok (.sipush 1024, 3) := by decide +kernel
theorem dX7_copy_52 : decode cX7_copy 52 = .ok (.iload_n 2, 1) := by decide +kernel
theorem dX7_copy_53 : decode cX7_copy 53 = .ok (.imul, 1) := by decide +kernel
theorem dX7_copy_54 : decode cX7_copy 54 = .ok (.iload_n 3, 1) := by decide +kernel
theorem dX7_copy_55 : decode cX7_copy 55 = .ok (.iadd, 1) := by decide +kernel
theorem dX7_copy_56 : decode cX7_copy 56 = .ok (.aload_n 0, 1) := by decide +kernel
theorem dX7_copy_57 : decode cX7_copy 57 = .ok (.getfield 23, 3) := by decide +kernel
theorem dX7_copy_60 : decode cX7_copy 60 = .ok (.sipush 1024, 3) := by decide +kernel
theorem dX7_copy_63 : decode cX7_copy 63 = .ok (.iload_n 1, 1) := by decide +kernel
theorem dX7_copy_64 : decode cX7_copy 64 = .ok (.imul, 1) := by decide +kernel
theorem dX7_copy_65 : decode cX7_copy 65 = .ok (.iload_n 3, 1) := by decide +kernel
theorem dX7_copy_66 : decode cX7_copy 66 = .ok (.iadd, 1) := by decide +kernel
theorem dX7_copy_67 : decode cX7_copy 67 = .ok (.laload, 1) := by decide +kernel
theorem dX7_copy_68 : decode cX7_copy 68 = .ok (.lastore, 1) := by decide +kernel
theorem dX7_copy_69 : decode cX7_copy 69 = .ok (.iinc 3 1, 3) := by decide +kernel
theorem dX7_copy_72 : decode cX7_copy 72 = .ok (.goto (-34), 3) := by decide +kernel
theorem dX7_copy_75 : decode cX7_copy 75 = .ok (.return_, 1) := by decide +kernel
set_option maxRecDepth 20000 in
theorem ggX7_copySet_X7_copy : GoodIn wsX7_copySet wsX7_copy := goodIn_r _ [6, 7, 8, 9, 10, 11, 12, 13, 14, 15, 16, 17, 18, 19, 20, 21, 22, 23, 24, 25, 26] rfl (by decide +kernel)
set_option maxRecDepth 20000 in
theorem gX7_copySet_X7_copy : GoodIn wsX7_copySet (wsV RX7 58 RX7 yX7_copy wsX7_copy) := goodIn_app (goodIn_of _ (by decide +kernel)) ggX7_copySet_X7_copy
theorem dX7_copySet_0 : decode cX7_copySet 0 = .ok (.aload_n 0, 1) := by decide +kernel
theorem dX7_copySet_1 : decode cX7_copySet 1 = .ok (.getfield 7, 3) := by decide +kernel
theorem dX7_copySet_4 : decode cX7_copySet 4 = .ok (.iload_n 2, 1) := by decide +kernel
theorem dX7_copySet_5 : decode cX7_copySet 5 = .ok (.aload_n 0, 1) := by decide +kernel
theorem dX7_copySet_6 : decode cX7_copySet 6 = .ok (.getfield 7, 3) := by decide +kernel
theorem dX7_copySet_9 : decode cX7_copySet 9 = .ok (.iload_n 1, 1) := by decide +kernel
theorem dX7_copySet_10 : decode cX7_copySet 10 = .ok (.iaload, 1) := by decide +kernel
theorem dX7_copySet_11 : decode cX7_copySet 11 = .ok (.iastore, 1) := by decide +kernel
theorem dX7_copySet_12 : decode cX7_copySet 12 = .ok (.iconst 0, 1) := by decide +kernel
theorem dX7_copySet_13 : decode cX7_copySet 13 = .ok (.istore_n 3, 1) := by decide +kernel
theorem dX7_copySet_14 : decode cX7_copySet 14 = .ok (.iload_n 3, 1) := by decide +kernel
theorem dX7_copySet_15 : decode cX7_copySet 15 = .ok (.aload_n 0, 1) := by decide +kernel
theorem dX7_copySet_16 : decode cX7_copySet 16 = .ok (.getfield 7, 3) := by decide +kernel
theorem dX7_copySet_19 : decode cX7_copySet 19 = .ok (.iload_n 1, 1) := by decide +kernel
theorem dX7_copySet_20 : decode cX7_copySet 20 = .ok (.iaload, 1) := by decide +kernel
theorem dX7_copySet_21 : decode cX7_copySet 21 = .ok (.if_icmp .ge 25, 3) := by decide +kernel
theorem dX7_copySet_24 : decode cX7_copySet 24 = .ok (.aload_n 0, 1) := by decide +kernel
theorem dX7_copySet_25 : decode cX7_copySet 25 = .ok (.bipush 6, 2) := by decide +kernel
theorem dX7_copySet_27 : decode cX7_copySet 27 = .ok (.iload_n 1, 1) := by decide +kernel
theorem dX7_copySet_28 : decode cX7_copySet 28 = .ok (.imul, 1) := by decide +kernel
theorem dX7_copySet_29 : decode cX7_copySet 29 = .ok (.iload_n 3, 1) := by decide +kernel
theorem dX7_copySet_30 : decode cX7_copySet 30 = .ok (.iadd, 1) := by decide +kernel
theorem dX7_copySet_31 : decode cX7_copySet 31 = .ok (.bipush 6, 2) := by decide +kernel
theorem dX7_copySet_33 : decode cX7_copySet 33 = .ok (.iload_n 2, 1) := by decide +kernel
theorem dX7_copySet_34 : decode cX7_copySet 34 = .ok (.imul, 1) := by decide +kernel
theorem dX7_copySet_35 : decode cX7_copySet 35 = .ok (.iload_n 3, 1) := by decide +kernel
theorem dX7_copySet_36 : decode cX7_copySet 36 = .ok (.iadd, 1) := by decide +kernel
theorem dX7_copySet_37 : decode cX7_copySet 37 = .ok (.invokevirtual 58, 3) := by decide +kernel
theorem dX7_copySet_40 : decode cX7_copySet 40 = .ok (.iinc 3 1, 3) := by decide +kernel
theorem dX7_copySet_43 : decode cX7_copySet 43 = .ok (.goto (-29), 3) := by decide +kernel
theorem dX7_copySet_46 : decode cX7_copySet 46 = .ok (.return_, 1) := by decide +kernel
theorem dX7_containerOf_0 : decode cX7_containerOf 0 = .ok (.iconst 0, 1) := by decide +kernel
theorem dX7_containerOf_1 : decode cX7_containerOf 1 = .ok (.istore_n 3, 1) := by decide +kernel
theorem dX7_containerOf_2 : decode cX7_containerOf 2 = .ok (.iload_n 3, 1) := by decide +kernel
theorem dX7_containerOf_3 : decode cX7_containerOf 3 = .ok (.aload_n 0, 1) := by decide +kernel
theorem dX7_containerOf_4 : decode cX7_containerOf 4 = .ok (.getfield 7, 3) := by decide +kernel
theorem dX7_containerOf_7 : decode cX7_containerOf 7 = .ok (.iload_n 1, 1) := by decide +kernel
theorem dX7_containerOf_8 : decode cX7_containerOf 8 = .ok (.iaload, 1) := by decide +kernel
theorem dX7_containerOf_9 : decode cX7_containerOf 9 = .ok (.if_icmp .ge 31, 3) := by decide +kernel
theorem dX7_containerOf_12 : decode cX7_containerOf 12 = .ok (.aload_n 0, 1) := by decide +kernel
theorem dX7_containerOf_13 : decode cX7_containerOf 13 = .ok (.getfield 13, 3) := by decide +kernel
theorem dX7_containerOf_16 : decode cX7_containerOf 16 = .ok (.bipush 6, 2) := by decide +kernel
theorem dX7_containerOf_18 : decode cX7_containerOf 18 = .ok (.iload_n 1, 1) := by decide +kernel
theorem dX7_containerOf_19 : decode cX7_containerOf 19 = .ok (.imul, 1) := by decide +kernel
theorem dX7_containerOf_20 : decode cX7_containerOf 20 = .ok (.iload_n 3, 1) := by decide +kernel
theorem dX7_containerOf_21 : decode cX7_containerOf 21 = .ok (.iadd, 1) := by decide +kernel
theorem dX7_containerOf_22 : decode cX7_containerOf 22 = .ok (.iaload, 1) := by decide +kernel
theorem dX7_containerOf_23 : decode cX7_containerOf 23 = .ok (.iload_n 2, 1) := by decide +kernel
theorem dX7_containerOf_24 : decode cX7_containerOf 24 = .ok (.if_icmp .ne 10, 3) := by decide +kernel
theorem dX7_containerOf_27 : decode cX7_containerOf 27 = .ok (.bipush 6, 2) := by decide +kernel
theorem dX7_containerOf_29 : decode cX7_containerOf 29 = .ok (.iload_n 1, 1) := by decide +kernel
theorem dX7_containerOf_30 : decode cX7_containerOf 30 = .ok (.imul, 1) := by decide +kernel
theorem dX7_containerOf_31 : decode cX7_containerOf 31 = .ok (.iload_n 3, 1) := by decide +kernel
theorem dX7_containerOf_32 : decode cX7_containerOf 32 = .ok (.iadd, 1) := by decide +kernel
theorem dX7_containerOf_33 : decode cX7_containerOf 33 = .ok (.ireturn, 1) := by decide +kernel
theorem dX7_containerOf_34 : decode cX7_containerOf 34 = .ok (.iinc 3 1, 3) := by decide +kernel
theorem dX7_containerOf_37 : decode cX7_containerOf 37 = .ok (.goto (-35), 3) := by decide +kernel
theorem dX7_containerOf_40 : decode cX7_containerOf 40 = .ok (.iconst (-1), 1) := by decide +kernel
theorem dX7_containerOf_41 : decode cX7_containerOf 41 = .ok (.ireturn, 1) := by decide +kernel
set_option maxRecDepth 20000 in
theorem ggX7_made_X7_copy : GoodIn wsX7_made wsX7_copy := goodIn_r _ [10, 2, 3, 4, 5, 11, 12, 13, 14, 15, 16, 17, 18, 19, 20, 21, 22, 23, 24, 25, 26] rfl (by decide +kernel)
set_option maxRecDepth 20000 in
theorem gX7_made_X7_copy : GoodIn wsX7_made (wsV RX7 58 RX7 yX7_copy wsX7_copy) := goodIn_app (goodIn_of _ (by decide +kernel)) ggX7_made_X7_copy
theorem dX7_made_0 : decode cX7_made 0 = .ok (.aload_n 0, 1) := by decide +kernel
theorem dX7_made_1 : decode cX7_made 1 = .ok (.getfield 7, 3) := by decide +kernel
theorem dX7_made_4 : decode cX7_made 4 = .ok (.iload_n 1, 1) := by decide +kernel
theorem dX7_made_5 : decode cX7_made 5 = .ok (.iaload, 1) := by decide +kernel
theorem dX7_made_6 : decode cX7_made 6 = .ok (.istore_n 3, 1) := by decide +kernel
theorem dX7_made_7 : decode cX7_made 7 = .ok (.iload_n 3, 1) := by decide +kernel
theorem dX7_made_8 : decode cX7_made 8 = .ok (.ifCond .le 44, 3) := by decide +kernel
theorem dX7_made_11 : decode cX7_made 11 = .ok (.aload_n 0, 1) := by decide +kernel
theorem dX7_made_12 : decode cX7_made 12 = .ok (.getfield 13, 3) := by decide +kernel
theorem dX7_made_15 : decode cX7_made 15 = .ok (.bipush 6, 2) := by decide +kernel
theorem dX7_made_17 : decode cX7_made 17 = .ok (.iload_n 1, 1) := by decide +kernel
theorem dX7_made_18 : decode cX7_made 18 = .ok (.imul, 1) := by decide +kernel
theorem dX7_made_19 : decode cX7_made 19 = .ok (.iload_n 3, 1) := by decide +kernel
theorem dX7_made_20 : decode cX7_made 20 = .ok (.iadd, 1) := by decide +kernel
theorem dX7_made_21 : decode cX7_made 21 = .ok (.iconst 1, 1) := by decide +kernel
theorem dX7_made_22 : decode cX7_made 22 = .ok (.isub, 1) := by decide +kernel
theorem dX7_made_23 : decode cX7_made 23 = .ok (.iaload, 1) := by decide +kernel
theorem dX7_made_24 : decode cX7_made 24 = .ok (.iload_n 2, 1) := by decide +kernel
theorem dX7_made_25 : decode cX7_made 25 = .ok (.if_icmp .le 27, 3) := by decide +kernel
theorem dX7_made_28 : decode cX7_made 28 = .ok (.aload_n 0, 1) := by decide +kernel
theorem dX7_made_29 : decode cX7_made 29 = .ok (.bipush 6, 2) := by decide +kernel
theorem dX7_made_31 : decode cX7_made 31 = .ok (.iload_n 1, 1) := by decide +kernel
theorem dX7_made_32 : decode cX7_made 32 = .ok (.imul, 1) := by decide +kernel
theorem dX7_made_33 : decode cX7_made 33 = .ok (.iload_n 3, 1) := by decide +kernel
theorem dX7_made_34 : decode cX7_made 34 = .ok (.iadd, 1) := by decide +kernel
theorem dX7_made_35 : decode cX7_made 35 = .ok (.iconst 1, 1) := by decide +kernel
theorem dX7_made_36 : decode cX7_made 36 = .ok (.isub, 1) := by decide +kernel
theorem dX7_made_37 : decode cX7_made 37 = .ok (.bipush 6, 2) := by decide +kernel
theorem dX7_made_39 : decode cX7_made 39 = .ok (.iload_n 1, 1) := by decide +kernel
theorem dX7_made_40 : decode cX7_made 40 = .ok (.imul, 1) := by decide +kernel
theorem dX7_made_41 : decode cX7_made 41 = .ok (.iload_n 3, 1) := by decide +kernel
theorem dX7_made_42 : decode cX7_made 42 = .ok (.iadd, 1) := by decide +kernel
theorem dX7_made_43 : decode cX7_made 43 = .ok (.invokevirtual 58, 3) := by decide +kernel
theorem dX7_made_46 : decode cX7_made 46 = .ok (.iinc 3 (-1), 3) := by decide +kernel
theorem dX7_made_49 : decode cX7_made 49 = .ok (.goto (-42), 3) := by decide +kernel
theorem dX7_made_52 : decode cX7_made 52 = .ok (.bipush 6, 2) := by decide +kernel
theorem dX7_made_54 : decode cX7_made 54 = .ok (.iload_n 1, 1) := by decide +kernel
theorem dX7_made_55 : decode cX7_made 55 = .ok (.imul, 1) := by decide +kernel
theorem dX7_made_56 : decode cX7_made 56 = .ok (.iload_n 3, 1) := by decide +kernel
theorem dX7_made_57 : decode cX7_made 57 = .ok (.iadd, 1) := by decide +kernel
theorem dX7_made_58 : decode cX7_made 58 = .ok (.istore 4, 2) := by decide +kernel
theorem dX7_made_60 : decode cX7_made 60 = .ok (.aload_n 0, 1) := by decide +kernel
theorem dX7_made_61 : decode cX7_made 61 = .ok (.getfield 13, 3) := by decide +kernel
theorem dX7_made_64 : decode cX7_made 64 = .ok (.iload 4, 2) := by decide +kernel
theorem dX7_made_66 : decode cX7_made 66 = .ok (.iload_n 2, 1) := by decide +kernel
theorem dX7_made_67 : decode cX7_made 67 = .ok (.iastore, 1) := by decide +kernel
theorem dX7_made_68 : decode cX7_made 68 = .ok (.aload_n 0, 1) := by decide +kernel
theorem dX7_made_69 : decode cX7_made 69 = .ok (.getfield 16, 3) := by decide +kernel
theorem dX7_made_72 : decode cX7_made 72 = .ok (.iload 4, 2) := by decide +kernel
theorem dX7_made_74 : decode cX7_made 74 = .ok (.iconst 0, 1) := by decide +kernel
theorem dX7_made_75 : decode cX7_made 75 = .ok (.iastore, 1) := by decide +kernel
theorem dX7_made_76 : decode cX7_made 76 = .ok (.aload_n 0, 1) := by decide +kernel
theorem dX7_made_77 : decode cX7_made 77 = .ok (.getfield 19, 3) := by decide +kernel
theorem dX7_made_80 : decode cX7_made 80 = .ok (.iload 4, 2) := by decide +kernel
theorem dX7_made_82 : decode cX7_made 82 = .ok (.iconst 0, 1) := by decide +kernel
theorem dX7_made_83 : decode cX7_made 83 = .ok (.iastore, 1) := by decide +kernel
theorem dX7_made_84 : decode cX7_made 84 = .ok (.iconst 0, 1) := by decide +kernel
theorem dX7_made_85 : decode cX7_made 85 = .ok (.istore 5, 2) := by decide +kernel
theorem dX7_made_87 : decode cX7_made 87 = .ok (.iload 5, 2) := by decide +kernel
theorem dX7_made_89 : decode cX7_made 89 = .ok (.sipush 1024, 3) := by decide +kernel
theorem dX7_made_92 : decode cX7_made 92 = .ok (.if_icmp .ge 24, 3) := by decide +kernel
theorem dX7_made_95 : decode cX7_made 95 = .ok (.aload_n 0, 1) := by decide +kernel
theorem dX7_made_96 : decode cX7_made 96 = .ok (.getfield 23, 3) := by decide +kernel
theorem dX7_made_99 : decode cX7_made 99 = .ok (.sipush 1024, 3) := by decide +kernel
theorem dX7_made_102 : decode cX7_made 102 = .ok (.iload 4, 2) := by decide +kernel
theorem dX7_made_104 : decode cX7_made 104 = .ok (.imul, 1) := by decide +kernel
theorem dX7_made_105 : decode cX7_made 105 = .ok (.iload 5, 2) := by decide +kernel
theorem dX7_made_107 : decode cX7_made 107 = .ok (.iadd, 1) := by decide +kernel
theorem dX7_made_108 : decode cX7_made 108 = .ok (.lconst 0, 1) := by decide +kernel
theorem dX7_made_109 : decode cX7_made 109 = .ok (.lastore, 1) := by decide +kernel
theorem dX7_made_110 : decode cX7_made 110 = .ok (.iinc 5 1, 3) := by decide +kernel
theorem dX7_made_113 : decode cX7_made 113 = .ok (.goto (-26), 3) := by decide +kernel
theorem dX7_made_116 : decode cX7_made 116 = .ok (.aload_n 0, 1) := by decide +kernel
theorem dX7_made_117 : decode cX7_made 117 = .ok (.getfield 7, 3) := by decide +kernel
theorem dX7_made_120 : decode cX7_made 120 = .ok (.iload_n 1, 1) := by decide +kernel
theorem dX7_made_121 : decode cX7_made 121 = .ok (.dup2, 1) := by decide +kernel
theorem dX7_made_122 : decode cX7_made 122 = .ok (.iaload, 1) := by decide +kernel
theorem dX7_made_123 : decode cX7_made 123 = .ok (.iconst 1, 1) := by decide +kernel
theorem dX7_made_124 : decode cX7_made 124 = .ok (.iadd, 1) := by decide +kernel
theorem dX7_made_125 : decode cX7_made 125 = .ok (.iastore, 1) := by decide +kernel
theorem dX7_made_126 : decode cX7_made 126 = .ok (.iload 4, 2) := by decide +kernel
theorem dX7_made_128 : decode cX7_made 128 = .ok (.ireturn, 1) := by decide +kernel
set_option maxRecDepth 20000 in
theorem ggX7_changed_X7_plainKind : GoodIn wsX7_changed wsX7_plainKind := goodIn_r _ [8, 1, 15, 16, 17, 18, 19, 20, 21, 22, 23, 24, 25, 26, 27, 28, 29, 30] rfl (by decide +kernel)
set_option maxRecDepth 20000 in
theorem gX7_changed_X7_plainKind : GoodIn wsX7_changed (wsV RX7 62 RX7 yX7_plainKind wsX7_plainKind) := goodIn_app (goodIn_of _ (by decide +kernel)) ggX7_changed_X7_plainKind
set_option maxRecDepth 20000 in
theorem ggX7_changed_X7_copy : GoodIn wsX7_changed wsX7_copy := goodIn_r _ [12, 13, 2, 1, 14, 15, 16, 17, 18, 19, 20, 21, 22, 23, 24, 25, 26, 27, 28, 29, 30] rfl (by decide +kernel)
set_option maxRecDepth 20000 in
theorem gX7_changed_X7_copy : GoodIn wsX7_changed (wsV RX7 58 RX7 yX7_copy wsX7_copy) := goodIn_app (goodIn_of _ (by decide +kernel)) ggX7_changed_X7_copy
theorem dX7_changed_0 : decode cX7_changed 0 = .ok (.aload_n 0, 1) := by decide +kernel
theorem dX7_changed_1 : decode cX7_changed 1 = .ok (.getfield 19, 3) := by decide +kernel
theorem dX7_changed_4 : decode cX7_changed 4 = .ok (.iload_n 2, 1) := by decide +kernel
theorem dX7_changed_5 : decode cX7_changed 5 = .ok (.iaload, 1) := by decide +kernel
theorem dX7_changed_6 : decode cX7_changed 6 = .ok (.ifCond .le 15, 3) := by decide +kernel
theorem dX7_changed_9 : decode cX7_changed 9 = .ok (.aload_n 0, 1) := by decide +kernel
theorem dX7_changed_10 : decode cX7_changed 10 = .ok (.getfield 16, 3) := by decide +kernel
theorem dX7_changed_13 : decode cX7_changed 13 = .ok (.iload_n 2, 1) := by decide +kernel
theorem dX7_changed_14 : decode cX7_changed 14 = .ok (.aload_n 0, 1) := by decide +kernel
theorem dX7_changed_15 : decode cX7_changed 15 = .ok (.iload_n 2, 1) := by decide +kernel
theorem dX7_changed_16 : decode cX7_changed 16 = .ok (.invokevirtual 62, 3) := by decide +kernel
theorem dX7_changed_19 : decode cX7_changed 19 = .ok (.iastore, 1) := by decide +kernel
theorem dX7_changed_20 : decode cX7_changed 20 = .ok (.return_, 1) := by decide +kernel
theorem dX7_changed_21 : decode cX7_changed 21 = .ok (.iload_n 2, 1) := by decide +kernel
theorem dX7_changed_22 : decode cX7_changed 22 = .ok (.istore_n 3, 1) := by decide +kernel
theorem dX7_changed_23 : decode cX7_changed 23 = .ok (.iload_n 3, 1) := by decide +kernel
theorem dX7_changed_24 : decode cX7_changed 24 = .ok (.iconst 1, 1) := by decide +kernel
theorem dX7_changed_25 : decode cX7_changed 25 = .ok (.iadd, 1) := by decide +kernel
theorem dX7_changed_26 : decode cX7_changed 26 = .ok (.bipush 6, 2) := by decide +kernel
theorem dX7_changed_28 : decode cX7_changed 28 = .ok (.iload_n 1, 1) := by decide +kernel
theorem dX7_changed_29 : decode cX7_changed 29 = .ok (.imul, 1) := by decide +kernel
theorem dX7_changed_30 : decode cX7_changed 30 = .ok (.aload_n 0, 1) := by decide +kernel
theorem dX7_changed_31 : decode cX7_changed 31 = .ok (.getfield 7, 3) := by decide +kernel
theorem dX7_changed_34 : decode cX7_changed 34 = .ok (.iload_n 1, 1) := by decide +kernel
theorem dX7_changed_35 : decode cX7_changed 35 = .ok (.iaload, 1) := by decide +kernel
theorem dX7_changed_36 : decode cX7_changed 36 = .ok (.iadd, 1) := by decide +kernel
theorem dX7_changed_37 : decode cX7_changed 37 = .ok (.if_icmp .ge 17, 3) := by decide +kernel
theorem dX7_changed_40 : decode cX7_changed 40 = .ok (.aload_n 0, 1) := by decide +kernel
theorem dX7_changed_41 : decode cX7_changed 41 = .ok (.iload_n 3, 1) := by decide +kernel
theorem dX7_changed_42 : decode cX7_changed 42 = .ok (.iconst 1, 1) := by decide +kernel
theorem dX7_changed_43 : decode cX7_changed 43 = .ok (.iadd, 1) := by decide +kernel
theorem dX7_changed_44 : decode cX7_changed 44 = .ok (.iload_n 3, 1) := by decide +kernel
theorem dX7_changed_45 : decode cX7_changed 45 = .ok (.invokevirtual 58, 3) := by decide +kernel
theorem dX7_changed_48 : decode cX7_changed 48 = .ok (.iinc 3 1, 3) := by decide +kernel
theorem dX7_changed_51 : decode cX7_changed 51 = .ok (.goto (-28), 3) := by decide +kernel
theorem dX7_changed_54 : decode cX7_changed 54 = .ok (.aload_n 0, 1) := by decide +kernel
theorem dX7_changed_55 : decode cX7_changed 55 = .ok (.getfield 7, 3) := by decide +kernel
theorem dX7_changed_58 : decode cX7_changed 58 = .ok (.iload_n 1, 1) := by decide +kernel
theorem dX7_changed_59 : decode cX7_changed 59 = .ok (.dup2, 1) := by decide +kernel
theorem dX7_changed_60 : decode cX7_changed 60 = .ok (.iaload, 1) := by decide +kernel
theorem dX7_changed_61 : decode cX7_changed 61 = .ok (.iconst 1, 1) := by decide +kernel
theorem dX7_changed_62 : decode cX7_changed 62 = .ok (.isub, 1) := by decide +kernel
theorem dX7_changed_63 : decode cX7_changed 63 = .ok (.iastore, 1) := by decide +kernel
theorem dX7_changed_64 : decode cX7_changed 64 = .ok (.return_, 1) := by decide +kernel
theorem dX7_all_0 : decode cX7_all 0 = .ok (.iconst 0, 1) := by decide +kernel
theorem dX7_all_1 : decode cX7_all 1 = .ok (.istore_n 2, 1) := by decide +kernel
theorem dX7_all_2 : decode cX7_all 2 = .ok (.iconst 0, 1) := by decide +kernel
theorem dX7_all_3 : decode cX7_all 3 = .ok (.istore_n 3, 1) := by decide +kernel
theorem dX7_all_4 : decode cX7_all 4 = .ok (.iload_n 3, 1) := by decide +kernel
theorem dX7_all_5 : decode cX7_all 5 = .ok (.aload_n 0, 1) := by decide +kernel
theorem dX7_all_6 : decode cX7_all 6 = .ok (.getfield 7, 3) := by decide +kernel
theorem dX7_all_9 : decode cX7_all 9 = .ok (.iload_n 1, 1) := by decide +kernel
theorem dX7_all_10 : decode cX7_all 10 = .ok (.iaload, 1) := by decide +kernel
theorem dX7_all_11 : decode cX7_all 11 = .ok (.if_icmp .ge 23, 3) := by decide +kernel
theorem dX7_all_14 : decode cX7_all 14 = .ok (.iload_n 2, 1) := by decide +kernel
theorem dX7_all_15 : decode cX7_all 15 = .ok (.aload_n 0, 1) := by decide +kernel
theorem dX7_all_16 : decode cX7_all 16 = .ok (.getfield 19, 3) := by decide +kernel
theorem dX7_all_19 : decode cX7_all 19 = .ok (.bipush 6, 2) := by decide +kernel
theorem dX7_all_21 : decode cX7_all 21 = .ok (.iload_n 1, 1) := by decide +kernel
theorem dX7_all_22 : decode cX7_all 22 = .ok (.imul, 1) := by decide +kernel
theorem dX7_all_23 : decode cX7_all 23 = .ok (.iload_n 3, 1) := by decide +kernel
theorem dX7_all_24 : decode cX7_all 24 = .ok (.iadd, 1) := by decide +kernel
theorem dX7_all_25 : decode cX7_all 25 = .ok (.iaload, 1) := by decide +kernel
theorem dX7_all_26 : decode cX7_all 26 = .ok (.iadd, 1) := by decide +kernel
theorem dX7_all_27 : decode cX7_all 27 = .ok (.istore_n 2, 1) := by decide +kernel
theorem dX7_all_28 : decode cX7_all 28 = .ok (.iinc 3 1, 3) := by decide +kernel
theorem dX7_all_31 : decode cX7_all 31 = .ok (.goto (-27), 3) := by decide +kernel
theorem dX7_all_34 : decode cX7_all 34 = .ok (.iload_n 2, 1) := by decide +kernel
theorem dX7_all_35 : decode cX7_all 35 = .ok (.ireturn, 1) := by decide +kernel
set_option maxRecDepth 20000 in
theorem ggX7_add_X7_isSet : GoodIn wsX7_add wsX7_isSet := goodIn_r _ [7, 8, 9, 10, 6, 11] rfl (by decide +kernel)
set_option maxRecDepth 20000 in
theorem gX7_add_X7_isSet : GoodIn wsX7_add (va_wsS RX7 66 yX7_isSet wsX7_isSet) := goodIn_app (goodIn_of _ (by decide +kernel)) ggX7_add_X7_isSet
set_option maxRecDepth 20000 in
theorem ggX7_add_X7_containerOf : GoodIn wsX7_add wsX7_containerOf := goodIn_r _ [15, 1, 16, 43, 44, 45, 46, 47, 48, 49, 50, 51, 52, 53, 54, 55, 56, 57, 58] rfl (by decide +kernel)
set_option maxRecDepth 20000 in
theorem gX7_add_X7_containerOf : GoodIn wsX7_add (wsV RX7 70 RX7 yX7_containerOf wsX7_containerOf) := goodIn_app (goodIn_of _ (by decide +kernel)) ggX7_add_X7_containerOf
set_option maxRecDepth 20000 in
theorem ggX7_add_X7_hasLow : GoodIn wsX7_add wsX7_hasLow := goodIn_r _ [20, 21, 43, 44, 45, 46, 47, 48, 49, 50, 51, 52, 53, 54, 55, 56, 57, 58] rfl (by decide +kernel)
set_option maxRecDepth 20000 in
theorem gX7_add_X7_hasLow : GoodIn wsX7_add (wsV RX7 75 RX7 yX7_hasLow wsX7_hasLow) := goodIn_app (goodIn_of _ (by decide +kernel)) ggX7_add_X7_hasLow
set_option maxRecDepth 20000 in
theorem ggX7_add_X7_made : GoodIn wsX7_add wsX7_made := goodIn_r _ [25, 1, 16, 26, 3, 21, 27, 28, 29, 6, 30, 43, 44, 45, 46, 47, 48, 49, 50, 51, 52, 53, 54, 55, 56, 57, 58] rfl (by decide +kernel)
set_option maxRecDepth 20000 in
theorem gX7_add_X7_made : GoodIn wsX7_add (wsV RX7 79 RX7 yX7_made wsX7_made) := goodIn_app (goodIn_of _ (by decide +kernel)) ggX7_add_X7_made
set_option maxRecDepth 20000 in
theorem ggX7_add_X7_turn : GoodIn wsX7_add wsX7_turn := goodIn_r _ [34, 21, 43, 44, 45, 46, 47, 48, 49, 50, 51, 52, 53, 54, 55, 56, 57, 58] rfl (by decide +kernel)
set_option maxRecDepth 20000 in
theorem gX7_add_X7_turn : GoodIn wsX7_add (wsV RX7 82 RX7 yX7_turn wsX7_turn) := goodIn_app (goodIn_of _ (by decide +kernel)) ggX7_add_X7_turn
set_option maxRecDepth 20000 in
theorem ggX7_add_X7_changed : GoodIn wsX7_add wsX7_changed := goodIn_r _ [38, 3, 26, 1, 39, 40, 41, 6, 42, 27, 28, 29, 30, 16, 21, 43, 44, 45, 46, 47, 48, 49, 50, 51, 52, 53, 54, 55, 56, 57, 58] rfl (by decide +kernel)
set_option maxRecDepth 20000 in
theorem gX7_add_X7_changed : GoodIn wsX7_add (wsV RX7 85 RX7 yX7_changed wsX7_changed) := goodIn_app (goodIn_of _ (by decide +kernel)) ggX7_add_X7_changed
theorem dX7_add_0 : decode cX7_add 0 = .ok (.iload_n 1, 1) := by decide +kernel
theorem dX7_add_1 : decode cX7_add 1 = .ok (.invokestatic 66, 3) := by decide +kernel
theorem dX7_add_4 : decode cX7_add 4 = .ok (.ifCond .ne 6, 3) := by decide +kernel
theorem dX7_add_7 : decode cX7_add 7 = .ok (.bipush (-2), 2) := by decide +kernel
theorem dX7_add_9 : decode cX7_add 9 = .ok (.ireturn, 1) := by decide +kernel
theorem dX7_add_10 : decode cX7_add 10 = .ok (.aload_n 0, 1) := by decide +kernel
theorem dX7_add_11 : decode cX7_add 11 = .ok (.iload_n 1, 1) := by decide +kernel
theorem dX7_add_12 : decode cX7_add 12 = .ok (.iload_n 2, 1) := by decide +kernel
theorem dX7_add_13 : decode cX7_add 13 = .ok (.bipush 16, 2) := by decide +kernel
theorem dX7_add_15 : decode cX7_add 15 = .ok (.iushr, 1) := by decide +kernel
theorem dX7_add_16 : decode cX7_add 16 = .ok (.invokevirtual 70, 3) := by decide +kernel
theorem dX7_add_19 : decode cX7_add 19 = .ok (.istore_n 3, 1) := by decide +kernel
theorem dX7_add_20 : decode cX7_add 20 = .ok (.iload_n 3, 1) := by decide +kernel
theorem dX7_add_21 : decode cX7_add 21 = .ok (.iconst (-1), 1) := by decide +kernel
theorem dX7_add_22 : decode cX7_add 22 = .ok (.if_icmp .ne 17, 3) := by decide +kernel
theorem dX7_add_25 : decode cX7_add 25 = .ok (.aload_n 0, 1) := by decide +kernel
theorem dX7_add_26 : decode cX7_add 26 = .ok (.getfield 7, 3) := by decide +kernel
theorem dX7_add_29 : decode cX7_add 29 = .ok (.iload_n 1, 1) := by decide +kernel
theorem dX7_add_30 : decode cX7_add 30 = .ok (.iaload, 1) := by decide +kernel
theorem dX7_add_31 : decode cX7_add 31 = .ok (.bipush 6, 2) := by decide +kernel
theorem dX7_add_33 : decode cX7_add 33 = .ok (.if_icmp .ne 6, 3) := by decide +kernel
theorem dX7_add_36 : decode cX7_add 36 = .ok (.bipush (-3), 2) := by decide +kernel
theorem dX7_add_38 : decode cX7_add 38 = .ok (.ireturn, 1) := by decide +kernel
theorem dX7_add_39 : decode cX7_add 39 = .ok (.iload_n 3, 1) := by decide +kernel
theorem dX7_add_40 : decode cX7_add 40 = .ok (.iconst (-1), 1) := by decide +kernel
theorem dX7_add_41 : decode cX7_add 41 = .ok (.if_icmp .eq 17, 3) := by decide +kernel
theorem dX7_add_44 : decode cX7_add 44 = .ok (.aload_n 0, 1) := by decide +kernel
theorem dX7_add_45 : decode cX7_add 45 = .ok (.iload_n 3, 1) := by decide +kernel
theorem dX7_add_46 : decode cX7_add 46 = .ok (.iload_n 2, 1) := by decide +kernel
theorem dX7_add_47 : decode cX7_add 47 = .ok (.ldc 74, 2) := by decide +kernel
theorem dX7_add_49 : decode cX7_add 49 = .ok (.iand, 1) := by decide +kernel
theorem dX7_add_50 : decode cX7_add 50 = .ok (.invokevirtual 75, 3) := by decide +kernel
theorem dX7_add_53 : decode cX7_add 53 = .ok (.ifCond .eq 5, 3) := by decide +kernel
theorem dX7_add_56 : decode cX7_add 56 = .ok (.iconst 0, 1) := by decide +kernel
theorem dX7_add_57 : decode cX7_add 57 = .ok (.ireturn, 1) := by decide +kernel
theorem dX7_add_58 : decode cX7_add 58 = .ok (.iload_n 3, 1) := by decide +kernel
theorem dX7_add_59 : decode cX7_add 59 = .ok (.iconst (-1), 1) := by decide +kernel
theorem dX7_add_60 : decode cX7_add 60 = .ok (.if_icmp .ne 15, 3) := by decide +kernel
theorem dX7_add_63 : decode cX7_add 63 = .ok (.aload_n 0, 1) := by decide +kernel
theorem dX7_add_64 : decode cX7_add 64 = .ok (.iload_n 1, 1) := by decide +kernel
theorem dX7_add_65 : decode cX7_add 65 = .ok (.iload_n 2, 1) := by decide +kernel
theorem dX7_add_66 : decode cX7_add 66 = .ok (.bipush 16, 2) := by decide +kernel
theorem dX7_add_68 : decode cX7_add 68 = .ok (.iushr, 1) := by decide +kernel
theorem dX7_add_69 : decode cX7_add 69 = .ok (.invokevirtual 79, 3) := by decide +kernel
theorem dX7_add_72 : decode cX7_add 72 = .ok (.goto 4, 3) := by decide +kernel
theorem dX7_add_75 : decode cX7_add 75 = .ok (.iload_n 3, 1) := by decide +kernel
theorem dX7_add_76 : decode cX7_add 76 = .ok (.istore_n 3, 1) := by decide +kernel
theorem dX7_add_77 : decode cX7_add 77 = .ok (.aload_n 0, 1) := by decide +kernel
theorem dX7_add_78 : decode cX7_add 78 = .ok (.iload_n 3, 1) := by decide +kernel
theorem dX7_add_79 : decode cX7_add 79 = .ok (.iload_n 2, 1) := by decide +kernel
theorem dX7_add_80 : decode cX7_add 80 = .ok (.ldc 74, 2) := by decide +kernel
theorem dX7_add_82 : decode cX7_add 82 = .ok (.iand, 1) := by decide +kernel
theorem dX7_add_83 : decode cX7_add 83 = .ok (.invokevirtual 82, 3) := by decide +kernel
theorem dX7_add_86 : decode cX7_add 86 = .ok (.aload_n 0, 1) := by decide +kernel
theorem dX7_add_87 : decode cX7_add 87 = .ok (.getfield 19, 3) := by decide +kernel
theorem dX7_add_90 : decode cX7_add 90 = .ok (.iload_n 3, 1) := by decide +kernel
theorem dX7_add_91 : decode cX7_add 91 = .ok (.dup2, 1) := by decide +kernel
theorem dX7_add_92 : decode cX7_add 92 = .ok (.iaload, 1) := by decide +kernel
theorem dX7_add_93 : decode cX7_add 93 = .ok (.iconst 1, 1) := by decide +kernel
theorem dX7_add_94 : decode cX7_add 94 = .ok (.iadd, 1) := by decide +kernel
theorem dX7_add_95 : decode cX7_add 95 = .ok (.iastore, 1) := by decide +kernel
theorem dX7_add_96 : decode cX7_add 96 = .ok (.aload_n 0, 1) := by decide +kernel
theorem dX7_add_97 : decode cX7_add 97 = .ok (.iload_n 1, 1) := by decide +kernel
theorem dX7_add_98 : decode cX7_add 98 = .ok (.iload_n 3, 1) := by decide +kernel
theorem dX7_add_99 : decode cX7_add 99 = .ok (.invokevirtual 85, 3) := by decide +kernel
theorem dX7_add_102 : decode cX7_add 102 = .ok (.iconst 1, 1) := by decide +kernel
theorem dX7_add_103 : decode cX7_add 103 = .ok (.ireturn, 1) := by decide +kernel
set_option maxRecDepth 20000 in
theorem ggX7_remove_X7_isSet : GoodIn wsX7_remove wsX7_isSet := goodIn_r _ [6, 7, 8, 9, 5, 10] rfl (by decide +kernel)
set_option maxRecDepth 20000 in
theorem gX7_remove_X7_isSet : GoodIn wsX7_remove (va_wsS RX7 66 yX7_isSet wsX7_isSet) := goodIn_app (goodIn_of _ (by decide +kernel)) ggX7_remove_X7_isSet
set_option maxRecDepth 20000 in
theorem ggX7_remove_X7_containerOf : GoodIn wsX7_remove wsX7_containerOf := goodIn_r _ [14, 15, 16, 39, 40, 41, 42, 43, 44, 45, 46, 47, 48, 49, 50, 51, 52, 53, 54] rfl (by decide +kernel)
set_option maxRecDepth 20000 in
theorem gX7_remove_X7_containerOf : GoodIn wsX7_remove (wsV RX7 70 RX7 yX7_containerOf wsX7_containerOf) := goodIn_app (goodIn_of _ (by decide +kernel)) ggX7_remove_X7_containerOf
set_option maxRecDepth 20000 in
theorem ggX7_remove_X7_hasLow : GoodIn wsX7_remove wsX7_hasLow := goodIn_r _ [20, 21, 39, 40, 41, 42, 43, 44, 45, 46, 47, 48, 49, 50, 51, 52, 53, 54] rfl (by decide +kernel)
set_option maxRecDepth 20000 in
theorem gX7_remove_X7_hasLow : GoodIn wsX7_remove (wsV RX7 75 RX7 yX7_hasLow wsX7_hasLow) := goodIn_app (goodIn_of _ (by decide +kernel)) ggX7_remove_X7_hasLow
set_option maxRecDepth 20000 in
theorem ggX7_remove_X7_turn : GoodIn wsX7_remove wsX7_turn := goodIn_r _ [25, 21, 39, 40, 41, 42, 43, 44, 45, 46, 47, 48, 49, 50, 51, 52, 53, 54] rfl (by decide +kernel)
set_option maxRecDepth 20000 in
theorem gX7_remove_X7_turn : GoodIn wsX7_remove (wsV RX7 82 RX7 yX7_turn wsX7_turn) := goodIn_app (goodIn_of _ (by decide +kernel)) ggX7_remove_X7_turn
set_option maxRecDepth 20000 in
theorem ggX7_remove_X7_changed : GoodIn wsX7_remove wsX7_changed := goodIn_r _ [29, 2, 30, 15, 31, 32, 33, 5, 34, 35, 36, 37, 38, 16, 21, 39, 40, 41, 42, 43, 44, 45, 46, 47, 48, 49, 50, 51, 52, 53, 54] rfl (by decide +kernel)
set_option maxRecDepth 20000 in
theorem gX7_remove_X7_changed : GoodIn wsX7_remove (wsV RX7 85 RX7 yX7_changed wsX7_changed) := goodIn_app (goodIn_of _ (by decide +kernel)) ggX7_remove_X7_changed
theorem dX7_remove_0 : decode cX7_remove 0 = .ok (.iload_n 1, 1) := by decide +kernel
theorem dX7_remove_1 : decode cX7_remove 1 = .ok (.invokestatic 66, 3) := by decide +kernel
theorem dX7_remove_4 : decode cX7_remove 4 = .ok (.ifCond .ne 6, 3) := by decide +kernel
theorem dX7_remove_7 : decode cX7_remove 7 = .ok (.bipush (-2), 2) := by decide +kernel
theorem dX7_remove_9 : decode cX7_remove 9 = .ok (.ireturn, 1) := by decide +kernel
theorem dX7_remove_10 : decode cX7_remove 10 = .ok (.aload_n 0, 1) := by decide +kernel
theorem dX7_remove_11 : decode cX7_remove 11 = .ok (.iload_n 1, 1) := by decide +kernel
theorem dX7_remove_12 : decode cX7_remove 12 = .ok (.iload_n 2, 1) := by decide +kernel
theorem dX7_remove_13 : decode cX7_remove 13 = .ok (.bipush 16, 2) := by decide +kernel
theorem dX7_remove_15 : decode cX7_remove 15 = .ok (.iushr, 1) := by decide +kernel
theorem dX7_remove_16 : decode cX7_remove 16 = .ok (.invokevirtual 70, 3) := by decide +kernel
theorem dX7_remove_19 : decode cX7_remove 19 = .ok (.istore_n 3, 1) := by decide +kernel
theorem dX7_remove_20 : decode cX7_remove 20 = .ok (.iload_n 3, 1) := by decide +kernel
theorem dX7_remove_21 : decode cX7_remove 21 = .ok (.iconst (-1), 1) := by decide +kernel
theorem dX7_remove_22 : decode cX7_remove 22 = .ok (.if_icmp .eq 15, 3) := by decide +kernel
theorem dX7_remove_25 : decode cX7_remove 25 = .ok (.aload_n 0, 1) := by decide +kernel
theorem dX7_remove_26 : decode cX7_remove 26 = .ok (.iload_n 3, 1) := by decide +kernel
theorem dX7_remove_27 : decode cX7_remove 27 = .ok (.iload_n 2, 1) := by decide +kernel
theorem dX7_remove_28 : decode cX7_remove 28 = .ok (.ldc 74, 2) := by decide +kernel
theorem dX7_remove_30 : decode cX7_remove 30 = .ok (.iand, 1) := by decide +kernel
theorem dX7_remove_31 : decode cX7_remove 31 = .ok (.invokevirtual 75, 3) := by decide +kernel
theorem dX7_remove_34 : decode cX7_remove 34 = .ok (.ifCond .ne 5, 3) := by decide +kernel
theorem dX7_remove_37 : decode cX7_remove 37 = .ok (.iconst 0, 1) := by decide +kernel
theorem dX7_remove_38 : decode cX7_remove 38 = .ok (.ireturn, 1) := by decide +kernel
theorem dX7_remove_39 : decode cX7_remove 39 = .ok (.aload_n 0, 1) := by decide +kernel
theorem dX7_remove_40 : decode cX7_remove 40 = .ok (.iload_n 3, 1) := by decide +kernel
theorem dX7_remove_41 : decode cX7_remove 41 = .ok (.iload_n 2, 1) := by decide +kernel
theorem dX7_remove_42 : decode cX7_remove 42 = .ok (.ldc 74, 2) := by decide +kernel
theorem dX7_remove_44 : decode cX7_remove 44 = .ok (.iand, 1) := by decide +kernel
theorem dX7_remove_45 : decode cX7_remove 45 = .ok (.invokevirtual 82, 3) := by decide +kernel
theorem dX7_remove_48 : decode cX7_remove 48 = .ok (.aload_n 0, 1) := by decide +kernel
theorem dX7_remove_49 : decode cX7_remove 49 = .ok (.getfield 19, 3) := by decide +kernel
theorem dX7_remove_52 : decode cX7_remove 52 = .ok (.iload_n 3, 1) := by decide +kernel
theorem dX7_remove_53 : decode cX7_remove 53 = .ok (.dup2, 1) := by decide +kernel
theorem dX7_remove_54 : decode cX7_remove 54 = .ok (.iaload, 1) := by decide +kernel
theorem dX7_remove_55 : decode cX7_remove 55 = .ok (.iconst 1, 1) := by decide +kernel
theorem dX7_remove_56 : decode cX7_remove 56 = .ok (.isub, 1) := by decide +kernel
theorem dX7_remove_57 : decode cX7_remove 57 = .ok (.iastore, 1) := by decide +kernel
theorem dX7_remove_58 : decode cX7_remove 58 = .ok (.aload_n 0, 1) := by decide +kernel
theorem dX7_remove_59 : decode cX7_remove 59 = .ok (.iload_n 1, 1) := by decide +kernel
theorem dX7_remove_60 : decode cX7_remove 60 = .ok (.iload_n 3, 1) := by decide +kernel
theorem dX7_remove_61 : decode cX7_remove 61 = .ok (.invokevirtual 85, 3) := by decide +kernel
theorem dX7_remove_64 : decode cX7_remove 64 = .ok (.iconst 1, 1) := by decide +kernel
theorem dX7_remove_65 : decode cX7_remove 65 = .ok (.ireturn, 1) := by decide +kernel
set_option maxRecDepth 20000 in
theorem ggX7_sweep_X7_containerOf : GoodIn wsX7_sweep wsX7_containerOf := goodIn_r _ [7, 1, 8, 39, 40, 41, 42, 43, 44, 45, 46, 47, 48, 49, 50, 51, 52, 53, 54] rfl (by decide +kernel)
set_option maxRecDepth 20000 in
theorem gX7_sweep_X7_containerOf : GoodIn wsX7_sweep (wsV RX7 70 RX7 yX7_containerOf wsX7_containerOf) := goodIn_app (goodIn_of _ (by decide +kernel)) ggX7_sweep_X7_containerOf
set_option maxRecDepth 20000 in
theorem ggX7_sweep_X7_all : GoodIn wsX7_sweep wsX7_all := goodIn_r _ [12, 1, 2, 39, 40, 41, 42, 43, 44, 45, 46, 47, 48, 49, 50, 51, 52, 53, 54] rfl (by decide +kernel)
set_option maxRecDepth 20000 in
theorem gX7_sweep_X7_all : GoodIn wsX7_sweep (wsV RX7 88 RX7 yX7_all wsX7_all) := goodIn_app (goodIn_of _ (by decide +kernel)) ggX7_sweep_X7_all
set_option maxRecDepth 20000 in
theorem ggX7_sweep_X7_made : GoodIn wsX7_sweep wsX7_made := goodIn_r _ [16, 1, 8, 17, 2, 18, 19, 20, 21, 6, 22, 39, 40, 41, 42, 43, 44, 45, 46, 47, 48, 49, 50, 51, 52, 53, 54] rfl (by decide +kernel)
set_option maxRecDepth 20000 in
theorem gX7_sweep_X7_made : GoodIn wsX7_sweep (wsV RX7 79 RX7 yX7_made wsX7_made) := goodIn_app (goodIn_of _ (by decide +kernel)) ggX7_sweep_X7_made
set_option maxRecDepth 20000 in
theorem ggX7_sweep_X7_hasLow : GoodIn wsX7_sweep wsX7_hasLow := goodIn_r _ [26, 18, 39, 40, 41, 42, 43, 44, 45, 46, 47, 48, 49, 50, 51, 52, 53, 54] rfl (by decide +kernel)
set_option maxRecDepth 20000 in
theorem gX7_sweep_X7_hasLow : GoodIn wsX7_sweep (wsV RX7 75 RX7 yX7_hasLow wsX7_hasLow) := goodIn_app (goodIn_of _ (by decide +kernel)) ggX7_sweep_X7_hasLow
set_option maxRecDepth 20000 in
theorem ggX7_sweep_X7_turn : GoodIn wsX7_sweep wsX7_turn := goodIn_r _ [30, 18, 39, 40, 41, 42, 43, 44, 45, 46, 47, 48, 49, 50, 51, 52, 53, 54] rfl (by decide +kernel)
set_option maxRecDepth 20000 in
theorem gX7_sweep_X7_turn : GoodIn wsX7_sweep (wsV RX7 82 RX7 yX7_turn wsX7_turn) := goodIn_app (goodIn_of _ (by decide +kernel)) ggX7_sweep_X7_turn
set_option maxRecDepth 20000 in
theorem ggX7_sweep_X7_changed : GoodIn wsX7_sweep wsX7_changed := goodIn_r _ [34, 2, 17, 1, 35, 36, 37, 6, 38, 19, 20, 21, 22, 8, 18, 39, 40, 41, 42, 43, 44, 45, 46, 47, 48, 49, 50, 51, 52, 53, 54] rfl (by decide +kernel)
set_option maxRecDepth 20000 in
theorem gX7_sweep_X7_changed : GoodIn wsX7_sweep (wsV RX7 85 RX7 yX7_changed wsX7_changed) := goodIn_app (goodIn_of _ (by decide +kernel)) ggX7_sweep_X7_changed
theorem dX7_sweep_0 : decode cX7_sweep 0 = .ok (.aload_n 0, 1) := by decide +kernel
theorem dX7_sweep_1 : decode cX7_sweep 1 = .ok (.iload_n 1, 1) := by decide +kernel
theorem dX7_sweep_2 : decode cX7_sweep 2 = .ok (.iload_n 2, 1) := by decide +kernel
theorem dX7_sweep_3 : decode cX7_sweep 3 = .ok (.invokevirtual 70, 3) := by decide +kernel
theorem dX7_sweep_6 : decode cX7_sweep 6 = .ok (.istore 7, 2) := by decide +kernel
theorem dX7_sweep_8 : decode cX7_sweep 8 = .ok (.iload 7, 2) := by decide +kernel
theorem dX7_sweep_10 : decode cX7_sweep 10 = .ok (.iconst (-1), 1) := by decide +kernel
theorem dX7_sweep_11 : decode cX7_sweep 11 = .ok (.if_icmp .ne 15, 3) := by decide +kernel
theorem dX7_sweep_14 : decode cX7_sweep 14 = .ok (.iload 6, 2) := by decide +kernel
theorem dX7_sweep_16 : decode cX7_sweep 16 = .ok (.iconst 1, 1) := by decide +kernel
theorem dX7_sweep_17 : decode cX7_sweep 17 = .ok (.if_icmp .ne 9, 3) := by decide +kernel
theorem dX7_sweep_20 : decode cX7_sweep 20 = .ok (.aload_n 0, 1) := by decide +kernel
theorem dX7_sweep_21 : decode cX7_sweep 21 = .ok (.iload_n 1, 1) := by decide +kernel
theorem dX7_sweep_22 : decode cX7_sweep 22 = .ok (.invokevirtual 88, 3) := by decide +kernel
theorem dX7_sweep_25 : decode cX7_sweep 25 = .ok (.ireturn, 1) := by decide +kernel
theorem dX7_sweep_26 : decode cX7_sweep 26 = .ok (.iload 7, 2) := by decide +kernel
theorem dX7_sweep_28 : decode cX7_sweep 28 = .ok (.iconst (-1), 1) := by decide +kernel
theorem dX7_sweep_29 : decode cX7_sweep 29 = .ok (.if_icmp .ne 17, 3) := by decide +kernel
theorem dX7_sweep_32 : decode cX7_sweep 32 = .ok (.aload_n 0, 1) := by decide +kernel
theorem dX7_sweep_33 : decode cX7_sweep 33 = .ok (.getfield 7, 3) := by decide +kernel
theorem dX7_sweep_36 : decode cX7_sweep 36 = .ok (.iload_n 1, 1) := by decide +kernel
theorem dX7_sweep_37 : decode cX7_sweep 37 = .ok (.iaload, 1) := by decide +kernel
theorem dX7_sweep_38 : decode cX7_sweep 38 = .ok (.bipush 6, 2) := by decide +kernel
theorem dX7_sweep_40 : decode cX7_sweep 40 = .ok (.if_icmp .ne 6, 3) := by decide +kernel
theorem dX7_sweep_43 : decode cX7_sweep 43 = .ok (.bipush (-3), 2) := by decide +kernel
theorem dX7_sweep_45 : decode cX7_sweep 45 = .ok (.ireturn, 1) := by decide +kernel
theorem dX7_sweep_46 : decode cX7_sweep 46 = .ok (.iload 7, 2) := by decide +kernel
theorem dX7_sweep_48 : decode cX7_sweep 48 = .ok (.iconst (-1), 1) := by decide +kernel
theorem dX7_sweep_49 : decode cX7_sweep 49 = .ok (.if_icmp .ne 12, 3) := by decide +kernel
theorem dX7_sweep_52 : decode cX7_sweep 52 = .ok (.aload_n 0, 1) := by decide +kernel
theorem dX7_sweep_53 : decode cX7_sweep 53 = .ok (.iload_n 1, 1) := by decide +kernel
theorem dX7_sweep_54 : decode cX7_sweep 54 = .ok (.iload_n 2, 1) := by decide +kernel
theorem dX7_sweep_55 : decode cX7_sweep 55 = .ok (.invokevirtual 79, 3) := by decide +kernel
theorem dX7_sweep_58 : decode cX7_sweep 58 = .ok (.goto 5, 3) := by decide +kernel
theorem dX7_sweep_61 : decode cX7_sweep 61 = .ok (.iload 7, 2) := by decide +kernel
theorem dX7_sweep_63 : decode cX7_sweep 63 = .ok (.istore 7, 2) := by decide +kernel
theorem dX7_sweep_65 : decode cX7_sweep 65 = .ok (.iconst 0, 1) := by decide +kernel
theorem dX7_sweep_66 : decode cX7_sweep 66 = .ok (.istore 8, 2) := by decide +kernel
theorem dX7_sweep_68 : decode cX7_sweep 68 = .ok (.iload_n 3, 1) := by decide +kernel
theorem dX7_sweep_69 : decode cX7_sweep 69 = .ok (.istore 9, 2) := by decide +kernel
theorem dX7_sweep_71 : decode cX7_sweep 71 = .ok (.iload 9, 2) := by decide +kernel
theorem dX7_sweep_73 : decode cX7_sweep 73 = .ok (.iload 4, 2) := by decide +kernel
theorem dX7_sweep_75 : decode cX7_sweep 75 = .ok (.if_icmp .gt 76, 3) := by decide +kernel
theorem dX7_sweep_78 : decode cX7_sweep 78 = .ok (.aload_n 0, 1) := by decide +kernel
theorem dX7_sweep_79 : decode cX7_sweep 79 = .ok (.iload 7, 2) := by decide +kernel
theorem dX7_sweep_81 : decode cX7_sweep 81 = .ok (.iload 9, 2) := by decide +kernel
theorem dX7_sweep_83 : decode cX7_sweep 83 = .ok (.invokevirtual 75, 3) := by decide +kernel
theorem dX7_sweep_86 : decode cX7_sweep 86 = .ok (.istore 10, 2) := by decide +kernel
theorem dX7_sweep_88 : decode cX7_sweep 88 = .ok (.iload 6, 2) := by decide +kernel
theorem dX7_sweep_90 : decode cX7_sweep 90 = .ok (.iconst 2, 1) := by decide +kernel
theorem dX7_sweep_91 : decode cX7_sweep 91 = .ok (.if_icmp .eq 19, 3) := by decide +kernel
theorem dX7_sweep_94 : decode cX7_sweep 94 = .ok (.iload 10, 2) := by decide +kernel
theorem dX7_sweep_96 : decode cX7_sweep 96 = .ok (.iload 6, 2) := by decide +kernel
theorem dX7_sweep_98 : decode cX7_sweep 98 = .ok (.iconst 1, 1) := by decide +kernel
theorem dX7_sweep_99 : decode cX7_sweep 99 = .ok (.if_icmp .ne 7, 3) := by decide +kernel
theorem dX7_sweep_102 : decode cX7_sweep 102 = .ok (.iconst 1, 1) := by decide +kernel
theorem dX7_sweep_103 : decode cX7_sweep 103 = .ok (.goto 4, 3) := by decide +kernel
theorem dX7_sweep_106 : decode cX7_sweep 106 = .ok (.iconst 0, 1) := by decide +kernel
theorem dX7_sweep_107 : decode cX7_sweep 107 = .ok (.if_icmp .ne 34, 3) := by decide +kernel
theorem dX7_sweep_110 : decode cX7_sweep 110 = .ok (.aload_n 0, 1) := by decide +kernel
theorem dX7_sweep_111 : decode cX7_sweep 111 = .ok (.iload 7, 2) := by decide +kernel
theorem dX7_sweep_113 : decode cX7_sweep 113 = .ok (.iload 9, 2) := by decide +kernel
theorem dX7_sweep_115 : decode cX7_sweep 115 = .ok (.invokevirtual 82, 3) := by decide +kernel
theorem dX7_sweep_118 : decode cX7_sweep 118 = .ok (.aload_n 0, 1) := by decide +kernel
theorem dX7_sweep_119 : decode cX7_sweep 119 = .ok (.getfield 19, 3) := by decide +kernel
theorem dX7_sweep_122 : decode cX7_sweep 122 = .ok (.iload 7, 2) := by decide +kernel
theorem dX7_sweep_124 : decode cX7_sweep 124 = .ok (.dup2, 1) := by decide +kernel
theorem dX7_sweep_125 : decode cX7_sweep 125 = .ok (.iaload, 1) := by decide +kernel
theorem dX7_sweep_126 : decode cX7_sweep 126 = .ok (.iload 10, 2) := by decide +kernel
theorem dX7_sweep_128 : decode cX7_sweep 128 = .ok (.ifCond .eq 7, 3) := by decide +kernel
theorem dX7_sweep_131 : decode cX7_sweep 131 = .ok (.iconst (-1), 1) := by decide +kernel
theorem dX7_sweep_132 : decode cX7_sweep 132 = .ok (.goto 4, 3) := by decide +kernel
theorem dX7_sweep_135 : decode cX7_sweep 135 = .ok (.iconst 1, 1) := by decide +kernel
theorem dX7_sweep_136 : decode cX7_sweep 136 = .ok (.iadd, 1) := by decide +kernel
theorem dX7_sweep_137 : decode cX7_sweep 137 = .ok (.iastore, 1) := by decide +kernel
theorem dX7_sweep_138 : decode cX7_sweep 138 = .ok (.iconst 1, 1) := by decide +kernel
theorem dX7_sweep_139 : decode cX7_sweep 139 = .ok (.istore 8, 2) := by decide +kernel
theorem dX7_sweep_141 : decode cX7_sweep 141 = .ok (.iload 9, 2) := by decide +kernel
theorem dX7_sweep_143 : decode cX7_sweep 143 = .ok (.iload 5, 2) := by decide +kernel
theorem dX7_sweep_145 : decode cX7_sweep 145 = .ok (.iadd, 1) := by decide +kernel
theorem dX7_sweep_146 : decode cX7_sweep 146 = .ok (.istore 9, 2) := by decide +kernel
theorem dX7_sweep_148 : decode cX7_sweep 148 = .ok (.goto (-77), 3) := by decide +kernel
theorem dX7_sweep_151 : decode cX7_sweep 151 = .ok (.iload 8, 2) := by decide +kernel
theorem dX7_sweep_153 : decode cX7_sweep 153 = .ok (.ifCond .eq 10, 3) := by decide +kernel
theorem dX7_sweep_156 : decode cX7_sweep 156 = .ok (.aload_n 0, 1) := by decide +kernel
theorem dX7_sweep_157 : decode cX7_sweep 157 = .ok (.iload_n 1, 1) := by decide +kernel
theorem dX7_sweep_158 : decode cX7_sweep 158 = .ok (.iload 7, 2) := by decide +kernel
theorem dX7_sweep_160 : decode cX7_sweep 160 = .ok (.invokevirtual 85, 3) := by decide +kernel
theorem dX7_sweep_163 : decode cX7_sweep 163 = .ok (.aload_n 0, 1) := by decide +kernel
theorem dX7_sweep_164 : decode cX7_sweep 164 = .ok (.iload_n 1, 1) := by decide +kernel
theorem dX7_sweep_165 : decode cX7_sweep 165 = .ok (.invokevirtual 88, 3) := by decide +kernel
theorem dX7_sweep_168 : decode cX7_sweep 168 = .ok (.ireturn, 1) := by decide +kernel
set_option maxRecDepth 20000 in
theorem ggX7_range_X7_isSet : GoodIn wsX7_range wsX7_isSet := goodIn_r _ [5, 6, 7, 8, 4, 9] rfl (by decide +kernel)
set_option maxRecDepth 20000 in
theorem gX7_range_X7_isSet : GoodIn wsX7_range (va_wsS RX7 66 yX7_isSet wsX7_isSet) := goodIn_app (goodIn_of _ (by decide +kernel)) ggX7_range_X7_isSet
set_option maxRecDepth 20000 in
theorem ggX7_range_X7_isLow : GoodIn wsX7_range wsX7_isLow := goodIn_r _ [12, 13, 7, 8, 4, 9] rfl (by decide +kernel)
set_option maxRecDepth 20000 in
theorem gX7_range_X7_isLow : GoodIn wsX7_range (va_wsS RX7 91 yX7_isLow wsX7_isLow) := goodIn_app (goodIn_of _ (by decide +kernel)) ggX7_range_X7_isLow
set_option maxRecDepth 20000 in
theorem ggX7_range_X7_in : GoodIn wsX7_range wsX7_in := goodIn_r _ [9] rfl (by decide +kernel)
set_option maxRecDepth 20000 in
theorem gX7_range_X7_in : GoodIn wsX7_range (va_wsS RX7 46 yX7_in wsX7_in) := goodIn_app (goodIn_of _ (by decide +kernel)) ggX7_range_X7_in
set_option maxRecDepth 20000 in
theorem ggX7_range_X7_sweep : GoodIn wsX7_range wsX7_sweep := goodIn_r _ [17, 18, 19, 20, 21, 22, 4, 23, 24, 25, 26, 27, 28, 29, 30, 31, 32, 33, 34, 35, 36, 37, 38, 39, 40, 41, 42, 43, 44, 45, 46, 47, 48, 49, 50, 51, 52, 53, 54, 55, 56, 57, 58, 59, 60, 61, 62, 63, 64, 65, 66, 67, 68, 69, 70] rfl (by decide +kernel)
set_option maxRecDepth 20000 in
theorem gX7_range_X7_sweep : GoodIn wsX7_range (wsV RX7 96 RX7 yX7_sweep wsX7_sweep) := goodIn_app (goodIn_of _ (by decide +kernel)) ggX7_range_X7_sweep
theorem dX7_range_0 : decode cX7_range 0 = .ok (.iload_n 1, 1) := by decide +kernel
theorem dX7_range_1 : decode cX7_range 1 = .ok (.invokestatic 66, 3) := by decide +kernel
theorem dX7_range_4 : decode cX7_range 4 = .ok (.ifCond .eq 44, 3) := by decide +kernel
theorem dX7_range_7 : decode cX7_range 7 = .ok (.iload_n 2, 1) := by decide +kernel
theorem dX7_range_8 : decode cX7_range 8 = .ok (.invokestatic 91, 3) := by decide +kernel
theorem dX7_range_11 : decode cX7_range 11 = .ok (.ifCond .eq 37, 3) := by decide +kernel
theorem dX7_range_14 : decode cX7_range 14 = .ok (.iload_n 3, 1) := by decide +kernel
theorem dX7_range_15 : decode cX7_range 15 = .ok (.invokestatic 91, 3) := by decide +kernel
theorem dX7_range_18 : decode cX7_range 18 = .ok (.ifCond .eq 30, 3) := by decide +kernel
theorem dX7_range_21 : decode cX7_range 21 = .ok (.iload 4, 2) := by decide +kernel
theorem dX7_range_23 : decode cX7_range 23 = .ok (.invokestatic 91, 3) := by decide +kernel
theorem dX7_range_26 : decode cX7_range 26 = .ok (.ifCond .eq 22, 3) := by decide +kernel
theorem dX7_range_29 : decode cX7_range 29 = .ok (.iload_n 3, 1) := by decide +kernel
theorem dX7_range_30 : decode cX7_range 30 = .ok (.iload 4, 2) := by decide +kernel
theorem dX7_range_32 : decode cX7_range 32 = .ok (.if_icmp .gt 16, 3) := by decide +kernel
theorem dX7_range_35 : decode cX7_range 35 = .ok (.iload 5, 2) := by decide +kernel
theorem dX7_range_37 : decode cX7_range 37 = .ok (.i2l, 1) := by decide +kernel
theorem dX7_range_38 : decode cX7_range 38 = .ok (.lconst 0, 1) := by decide +kernel
theorem dX7_range_39 : decode cX7_range 39 = .ok (.ldc2_w 94, 3) := by decide +kernel
theorem dX7_range_42 : decode cX7_range 42 = .ok (.invokestatic 46, 3) := by decide +kernel
theorem dX7_range_45 : decode cX7_range 45 = .ok (.ifCond .ne 6, 3) := by decide +kernel
theorem dX7_range_48 : decode cX7_range 48 = .ok (.bipush (-2), 2) := by decide +kernel
theorem dX7_range_50 : decode cX7_range 50 = .ok (.ireturn, 1) := by decide +kernel
theorem dX7_range_51 : decode cX7_range 51 = .ok (.aload_n 0, 1) := by decide +kernel
theorem dX7_range_52 : decode cX7_range 52 = .ok (.iload_n 1, 1) := by decide +kernel
theorem dX7_range_53 : decode cX7_range 53 = .ok (.iload_n 2, 1) := by decide +kernel
theorem dX7_range_54 : decode cX7_range 54 = .ok (.iload_n 3, 1) := by decide +kernel
theorem dX7_range_55 : decode cX7_range 55 = .ok (.iload 4, 2) := by decide +kernel
theorem dX7_range_57 : decode cX7_range 57 = .ok (.iconst 1, 1) := by decide +kernel
theorem dX7_range_58 : decode cX7_range 58 = .ok (.iload 5, 2) := by decide +kernel
theorem dX7_range_60 : decode cX7_range 60 = .ok (.invokevirtual 96, 3) := by decide +kernel
theorem dX7_range_63 : decode cX7_range 63 = .ok (.ireturn, 1) := by decide +kernel
set_option maxRecDepth 20000 in
theorem ggX7_steps_X7_isSet : GoodIn wsX7_steps wsX7_isSet := goodIn_r _ [6, 7, 8, 9, 5, 10] rfl (by decide +kernel)
set_option maxRecDepth 20000 in
theorem gX7_steps_X7_isSet : GoodIn wsX7_steps (va_wsS RX7 66 yX7_isSet wsX7_isSet) := goodIn_app (goodIn_of _ (by decide +kernel)) ggX7_steps_X7_isSet
set_option maxRecDepth 20000 in
theorem ggX7_steps_X7_isLow : GoodIn wsX7_steps wsX7_isLow := goodIn_r _ [13, 1, 8, 9, 5, 10] rfl (by decide +kernel)
set_option maxRecDepth 20000 in
theorem gX7_steps_X7_isLow : GoodIn wsX7_steps (va_wsS RX7 91 yX7_isLow wsX7_isLow) := goodIn_app (goodIn_of _ (by decide +kernel)) ggX7_steps_X7_isLow
set_option maxRecDepth 20000 in
theorem ggX7_steps_X7_in : GoodIn wsX7_steps wsX7_in := goodIn_r _ [10] rfl (by decide +kernel)
set_option maxRecDepth 20000 in
theorem gX7_steps_X7_in : GoodIn wsX7_steps (va_wsS RX7 46 yX7_in wsX7_in) := goodIn_app (goodIn_of _ (by decide +kernel)) ggX7_steps_X7_in
set_option maxRecDepth 20000 in
theorem ggX7_steps_X7_sweep : GoodIn wsX7_steps wsX7_sweep := goodIn_r _ [17, 18, 19, 20, 21, 22, 5, 23, 24, 25, 26, 27, 28, 29, 30, 31, 32, 33, 34, 35, 36, 37, 38, 39, 40, 41, 42, 43, 44, 45, 46, 47, 48, 49, 50, 51, 52, 53, 54, 55, 56, 57, 58, 59, 60, 61, 62, 63, 64, 65, 66, 67, 68, 69, 70] rfl (by decide +kernel)
set_option maxRecDepth 20000 in
theorem gX7_steps_X7_sweep : GoodIn wsX7_steps (wsV RX7 96 RX7 yX7_sweep wsX7_sweep) := goodIn_app (goodIn_of _ (by decide +kernel)) ggX7_steps_X7_sweep
theorem dX7_steps_0 : decode cX7_steps 0 = .ok (.iload_n 1, 1) := by decide +kernel
theorem dX7_steps_1 : decode cX7_steps 1 = .ok (.invokestatic 66, 3) := by decide +kernel
theorem dX7_steps_4 : decode cX7_steps 4 = .ok (.ifCond .eq 30, 3) := by decide +kernel
theorem dX7_steps_7 : decode cX7_steps 7 = .ok (.iload_n 2, 1) := by decide +kernel
theorem dX7_steps_8 : decode cX7_steps 8 = .ok (.invokestatic 91, 3) := by decide +kernel
theorem dX7_steps_11 : decode cX7_steps 11 = .ok (.ifCond .eq 23, 3) := by decide +kernel
theorem dX7_steps_14 : decode cX7_steps 14 = .ok (.iload_n 3, 1) := by decide +kernel
theorem dX7_steps_15 : decode cX7_steps 15 = .ok (.invokestatic 91, 3) := by decide +kernel
theorem dX7_steps_18 : decode cX7_steps 18 = .ok (.ifCond .eq 16, 3) := by decide +kernel
theorem dX7_steps_21 : decode cX7_steps 21 = .ok (.iload 4, 2) := by decide +kernel
theorem dX7_steps_23 : decode cX7_steps 23 = .ok (.i2l, 1) := by decide +kernel
theorem dX7_steps_24 : decode cX7_steps 24 = .ok (.lconst 1, 1) := by decide +kernel
theorem dX7_steps_25 : decode cX7_steps 25 = .ok (.ldc2_w 50, 3) := by decide +kernel
theorem dX7_steps_28 : decode cX7_steps 28 = .ok (.invokestatic 46, 3) := by decide +kernel
theorem dX7_steps_31 : decode cX7_steps 31 = .ok (.ifCond .ne 6, 3) := by decide +kernel
theorem dX7_steps_34 : decode cX7_steps 34 = .ok (.bipush (-2), 2) := by decide +kernel
theorem dX7_steps_36 : decode cX7_steps 36 = .ok (.ireturn, 1) := by decide +kernel
theorem dX7_steps_37 : decode cX7_steps 37 = .ok (.aload_n 0, 1) := by decide +kernel
theorem dX7_steps_38 : decode cX7_steps 38 = .ok (.iload_n 1, 1) := by decide +kernel
theorem dX7_steps_39 : decode cX7_steps 39 = .ok (.iload_n 2, 1) := by decide +kernel
theorem dX7_steps_40 : decode cX7_steps 40 = .ok (.iload_n 3, 1) := by decide +kernel
theorem dX7_steps_41 : decode cX7_steps 41 = .ok (.ldc 74, 2) := by decide +kernel
theorem dX7_steps_43 : decode cX7_steps 43 = .ok (.iload 4, 2) := by decide +kernel
theorem dX7_steps_45 : decode cX7_steps 45 = .ok (.iconst 0, 1) := by decide +kernel
theorem dX7_steps_46 : decode cX7_steps 46 = .ok (.invokevirtual 96, 3) := by decide +kernel
theorem dX7_steps_49 : decode cX7_steps 49 = .ok (.ireturn, 1) := by decide +kernel
set_option maxRecDepth 20000 in
theorem ggX7_clear_X7_isSet : GoodIn wsX7_clear wsX7_isSet := goodIn_r _ [5, 6, 7, 8, 4, 9] rfl (by decide +kernel)
set_option maxRecDepth 20000 in
theorem gX7_clear_X7_isSet : GoodIn wsX7_clear (va_wsS RX7 66 yX7_isSet wsX7_isSet) := goodIn_app (goodIn_of _ (by decide +kernel)) ggX7_clear_X7_isSet
set_option maxRecDepth 20000 in
theorem ggX7_clear_X7_all : GoodIn wsX7_clear wsX7_all := goodIn_r _ [13, 1, 14, 15, 16, 17, 18, 19, 20, 21, 22, 23, 24, 25, 26, 27, 28, 29, 30] rfl (by decide +kernel)
set_option maxRecDepth 20000 in
theorem gX7_clear_X7_all : GoodIn wsX7_clear (wsV RX7 88 RX7 yX7_all wsX7_all) := goodIn_app (goodIn_of _ (by decide +kernel)) ggX7_clear_X7_all
theorem dX7_clear_0 : decode cX7_clear 0 = .ok (.iload_n 1, 1) := by decide +kernel
theorem dX7_clear_1 : decode cX7_clear 1 = .ok (.invokestatic 66, 3) := by decide +kernel
theorem dX7_clear_4 : decode cX7_clear 4 = .ok (.ifCond .ne 6, 3) := by decide +kernel
theorem dX7_clear_7 : decode cX7_clear 7 = .ok (.bipush (-2), 2) := by decide +kernel
theorem dX7_clear_9 : decode cX7_clear 9 = .ok (.ireturn, 1) := by decide +kernel
theorem dX7_clear_10 : decode cX7_clear 10 = .ok (.aload_n 0, 1) := by decide +kernel
theorem dX7_clear_11 : decode cX7_clear 11 = .ok (.iload_n 1, 1) := by decide +kernel
theorem dX7_clear_12 : decode cX7_clear 12 = .ok (.invokevirtual 88, 3) := by decide +kernel
theorem dX7_clear_15 : decode cX7_clear 15 = .ok (.istore_n 2, 1) := by decide +kernel
theorem dX7_clear_16 : decode cX7_clear 16 = .ok (.aload_n 0, 1) := by decide +kernel
theorem dX7_clear_17 : decode cX7_clear 17 = .ok (.getfield 7, 3) := by decide +kernel
theorem dX7_clear_20 : decode cX7_clear 20 = .ok (.iload_n 1, 1) := by decide +kernel
theorem dX7_clear_21 : decode cX7_clear 21 = .ok (.iconst 0, 1) := by decide +kernel
theorem dX7_clear_22 : decode cX7_clear 22 = .ok (.iastore, 1) := by decide +kernel
theorem dX7_clear_23 : decode cX7_clear 23 = .ok (.iload_n 2, 1) := by decide +kernel
theorem dX7_clear_24 : decode cX7_clear 24 = .ok (.ireturn, 1) := by decide +kernel
theorem dX7_isLike_0 : decode cX7_isLike 0 = .ok (.iload_n 1, 1) := by decide +kernel
theorem dX7_isLike_1 : decode cX7_isLike 1 = .ok (.iconst (-1), 1) := by decide +kernel
theorem dX7_isLike_2 : decode cX7_isLike 2 = .ok (.if_icmp .eq 18, 3) := by decide +kernel
theorem dX7_isLike_5 : decode cX7_isLike 5 = .ok (.aload_n 0, 1) := by decide +kernel
theorem dX7_isLike_6 : decode cX7_isLike 6 = .ok (.getfield 19, 3) := by decide +kernel
theorem dX7_isLike_9 : decode cX7_isLike 9 = .ok (.iload_n 1, 1) := by decide +kernel
theorem dX7_isLike_10 : decode cX7_isLike 10 = .ok (.iaload, 1) := by decide +kernel
theorem dX7_isLike_11 : decode cX7_isLike 11 = .ok (.aload_n 0, 1) := by decide +kernel
theorem dX7_isLike_12 : decode cX7_isLike 12 = .ok (.getfield 19, 3) := by decide +kernel
theorem dX7_isLike_15 : decode cX7_isLike 15 = .ok (.iload_n 2, 1) := by decide +kernel
theorem dX7_isLike_16 : decode cX7_isLike 16 = .ok (.iaload, 1) := by decide +kernel
theorem dX7_isLike_17 : decode cX7_isLike 17 = .ok (.if_icmp .eq 5, 3) := by decide +kernel
theorem dX7_isLike_20 : decode cX7_isLike 20 = .ok (.iconst 0, 1) := by decide +kernel
theorem dX7_isLike_21 : decode cX7_isLike 21 = .ok (.ireturn, 1) := by decide +kernel
theorem dX7_isLike_22 : decode cX7_isLike 22 = .ok (.iconst 0, 1) := by decide +kernel
theorem dX7_isLike_23 : decode cX7_isLike 23 = .ok (.istore_n 3, 1) := by decide +kernel
theorem dX7_isLike_24 : decode cX7_isLike 24 = .ok (.iload_n 3, 1) := by decide +kernel
theorem dX7_isLike_25 : decode cX7_isLike 25 = .ok (.sipush 1024, 3) := by decide +kernel
theorem dX7_isLike_28 : decode cX7_isLike 28 = .ok (.if_icmp .ge 39, 3) := by decide +kernel
theorem dX7_isLike_31 : decode cX7_isLike 31 = .ok (.aload_n 0, 1) := by decide +kernel
theorem dX7_isLike_32 : decode cX7_isLike 32 = .ok (.getfield 23, 3) := by decide +kernel
theorem dX7_isLike_35 : decode cX7_isLike 35 = .ok (.sipush 1024, 3) := by decide +kernel
theorem dX7_isLike_38 : decode cX7_isLike 38 = .ok (.iload_n 1, 1) := by decide +kernel
theorem dX7_isLike_39 : decode cX7_isLike 39 = .ok (.imul, 1) := by decide +kernel
theorem dX7_isLike_40 : decode cX7_isLike 40 = .ok (.iload_n 3, 1) := by decide +kernel
theorem dX7_isLike_41 : decode cX7_isLike 41 = .ok (.iadd, 1) := by decide +kernel
theorem dX7_isLike_42 : decode cX7_isLike 42 = .ok (.laload, 1) := by decide +kernel
theorem dX7_isLike_43 : decode cX7_isLike 43 = .ok (.aload_n 0, 1) := by decide +kernel
theorem dX7_isLike_44 : decode cX7_isLike 44 = .ok (.getfield 23, 3) := by decide +kernel
theorem dX7_isLike_47 : decode cX7_isLike 47 = .ok (.sipush 1024, 3) := by decide +kernel
theorem dX7_isLike_50 : decode cX7_isLike 50 = .ok (.iload_n 2, 1) := by decide +kernel
theorem dX7_isLike_51 : decode cX7_isLike 51 = .ok (.imul, 1) := by decide +kernel
theorem dX7_isLike_52 : decode cX7_isLike 52 = .ok (.iload_n 3, 1) := by decide +kernel
theorem dX7_isLike_53 : decode cX7_isLike 53 = .ok (.iadd, 1) := by decide +kernel
theorem dX7_isLike_54 : decode cX7_isLike 54 = .ok (.laload, 1) := by decide +kernel
theorem dX7_isLike_55 : decode cX7_isLike 55 = .ok (.lcmp, 1) := by decide +kernel
theorem dX7_isLike_56 : decode cX7_isLike 56 = .ok (.ifCond .eq 5, 3) := by decide +kernel
theorem dX7_isLike_59 : decode cX7_isLike 59 = .ok (.iconst 0, 1) := by decide +kernel
theorem dX7_isLike_60 : decode cX7_isLike 60 = .ok (.ireturn, 1) := by decide +kernel
theorem dX7_isLike_61 : decode cX7_isLike 61 = .ok (.iinc 3 1, 3) := by decide +kernel
theorem dX7_isLike_64 : decode cX7_isLike 64 = .ok (.goto (-40), 3) := by decide +kernel
theorem dX7_isLike_67 : decode cX7_isLike 67 = .ok (.iconst 1, 1) := by decide +kernel
theorem dX7_isLike_68 : decode cX7_isLike 68 = .ok (.ireturn, 1) := by decide +kernel
theorem dX7_joined_0 : decode cX7_joined 0 = .ok (.iload_n 0, 1) := by decide +kernel
theorem dX7_joined_1 : decode cX7_joined 1 = .ok (.ifCond .ne 9, 3) := by decide +kernel
theorem dX7_joined_4 : decode cX7_joined 4 = .ok (.lload_n 1, 1) := by decide +kernel
theorem dX7_joined_5 : decode cX7_joined 5 = .ok (.lload_n 3, 1) := by decide +kernel
theorem dX7_joined_6 : decode cX7_joined 6 = .ok (.land, 1) := by decide +kernel
theorem dX7_joined_7 : decode cX7_joined 7 = .ok (.goto 32, 3) := by decide +kernel
theorem dX7_joined_10 : decode cX7_joined 10 = .ok (.iload_n 0, 1) := by decide +kernel
theorem dX7_joined_11 : decode cX7_joined 11 = .ok (.iconst 1, 1) := by decide +kernel
theorem dX7_joined_12 : decode cX7_joined 12 = .ok (.if_icmp .ne 9, 3) := by decide +kernel
theorem dX7_joined_15 : decode cX7_joined 15 = .ok (.lload_n 1, 1) := by decide +kernel
theorem dX7_joined_16 : decode cX7_joined 16 = .ok (.lload_n 3, 1) := by decide +kernel
theorem dX7_joined_17 : decode cX7_joined 17 = .ok (.lor, 1) := by decide +kernel
theorem dX7_joined_18 : decode cX7_joined 18 = .ok (.goto 21, 3) := by decide +kernel
theorem dX7_joined_21 : decode cX7_joined 21 = .ok (.iload_n 0, 1) := by decide +kernel
theorem dX7_joined_22 : decode cX7_joined 22 = .ok (.iconst 2, 1) := by decide +kernel
theorem dX7_joined_23 : decode cX7_joined 23 = .ok (.if_icmp .ne 9, 3) := by decide +kernel
theorem dX7_joined_26 : decode cX7_joined 26 = .ok (.lload_n 1, 1) := by decide +kernel
theorem dX7_joined_27 : decode cX7_joined 27 = .ok (.lload_n 3, 1) := by decide +kernel
theorem dX7_joined_28 : decode cX7_joined 28 = .ok (.lxor, 1) := by decide +kernel
theorem dX7_joined_29 : decode cX7_joined 29 = .ok (.goto 10, 3) := by decide +kernel
theorem dX7_joined_32 : decode cX7_joined 32 = .ok (.lload_n 1, 1) := by decide +kernel
theorem dX7_joined_33 : decode cX7_joined 33 = .ok (.lload_n 3, 1) := by decide +kernel
theorem dX7_joined_34 : decode cX7_joined 34 = .ok (.ldc2_w 52, 3) := by decide +kernel
theorem dX7_joined_37 : decode cX7_joined 37 = .ok (.lxor, 1) := by decide +kernel
theorem dX7_joined_38 : decode cX7_joined 38 = .ok (.land, 1) := by decide +kernel
theorem dX7_joined_39 : decode cX7_joined 39 = .ok (.lreturn, 1) := by decide +kernel
set_option maxRecDepth 20000 in
theorem ggX7_makeOne_X7_joined : GoodIn wsX7_makeOne wsX7_joined := goodIn_r _ [8, 9] rfl (by decide +kernel)
set_option maxRecDepth 20000 in
theorem gX7_makeOne_X7_joined : GoodIn wsX7_makeOne (va_wsS RX7 100 yX7_joined wsX7_joined) := goodIn_app (goodIn_of _ (by decide +kernel)) ggX7_makeOne_X7_joined
set_option maxRecDepth 20000 in
theorem ggX7_makeOne_X7_made : GoodIn wsX7_makeOne wsX7_made := goodIn_r _ [13, 1, 14, 4, 3, 2, 15, 16, 17, 7, 18, 34, 35, 36, 37, 38, 39, 40, 41, 42, 43, 44, 45, 46, 47, 48, 49] rfl (by decide +kernel)
