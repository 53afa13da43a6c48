theorem dX0_init_0 : decode cX0_init 0 = .ok (.aload_n 0, 1) := by decide +kernel
theorem dX0_init_1 : decode cX0_init 1 = .ok (.invokespecial 3, 3) := by decide +kernel
theorem dX0_init_4 : decode cX0_init 4 = .ok (.aload_n 0, 1) := by decide +kernel
theorem dX0_init_5 : decode cX0_init 5 = .ok (.sipush 1024, 3) := by decide +kernel
theorem dX0_init_8 : decode cX0_init 8 = .ok (.newarray .byte, 2) := by decide +kernel
theorem dX0_init_10 : decode cX0_init 10 = .ok (.putfield 9, 3) := by decide +kernel
theorem dX0_init_13 : decode cX0_init 13 = .ok (.return_, 1) := by decide +kernel
theorem dX0_lacks_0 : decode cX0_lacks 0 = .ok (.iload_n 1, 1) := by decide +kernel
theorem dX0_lacks_1 : decode cX0_lacks 1 = .ok (.ifCond .lt 11, 3) := by decide +kernel
theorem dX0_lacks_4 : decode cX0_lacks 4 = .ok (.iload_n 1, 1) := by decide +kernel
theorem dX0_lacks_5 : decode cX0_lacks 5 = .ok (.aload_n 0, 1) := by decide +kernel
theorem dX0_lacks_6 : decode cX0_lacks 6 = .ok (.getfield 15, 3) := by decide +kernel
theorem dX0_lacks_9 : decode cX0_lacks 9 = .ok (.if_icmp .lt 7, 3) := by decide +kernel
theorem dX0_lacks_12 : decode cX0_lacks 12 = .ok (.iconst 1, 1) := by decide +kernel
theorem dX0_lacks_13 : decode cX0_lacks 13 = .ok (.goto 4, 3) := by decide +kernel
theorem dX0_lacks_16 : decode cX0_lacks 16 = .ok (.iconst 0, 1) := by decide +kernel
theorem dX0_lacks_17 : decode cX0_lacks 17 = .ok (.ireturn, 1) := by decide +kernel
theorem dX0_byteAt_0 : decode cX0_byteAt 0 = .ok (.aload_n 0, 1) := by decide +kernel
theorem dX0_byteAt_1 : decode cX0_byteAt 1 = .ok (.getfield 9, 3) := by decide +kernel
theorem dX0_byteAt_4 : decode cX0_byteAt 4 = .ok (.iload_n 1, 1) := by decide +kernel
theorem dX0_byteAt_5 : decode cX0_byteAt 5 = .ok (.baload, 1) := by decide +kernel
theorem dX0_byteAt_6 : decode cX0_byteAt 6 = .ok (.sipush 255, 3) := by decide +kernel
theorem dX0_byteAt_9 : decode cX0_byteAt 9 = .ok (.iand, 1) := by decide +kernel
theorem dX0_byteAt_10 : decode cX0_byteAt 10 = .ok (.ireturn, 1) := by decide +kernel
set_option maxRecDepth 20000 in
theorem ggX0_put_J7_copyOf_9075b : GoodIn wsX0_put wsJ7_copyOf_9075b := goodIn_r _ [7, 8, 9, 10, 11, 12, 13, 14, 15, 16, 17, 18, 19, 20, 21, 22] rfl (by decide +kernel)
set_option maxRecDepth 20000 in
theorem gX0_put_J7_copyOf_9075b : GoodIn wsX0_put (va_wsS RX0 20 yJ7_copyOf_9075b wsJ7_copyOf_9075b) := goodIn_app (goodIn_of _ (by decide +kernel)) ggX0_put_J7_copyOf_9075b
theorem dX0_put_0 : decode cX0_put 0 = .ok (.aload_n 0, 1) := by decide +kernel
theorem dX0_put_1 : decode cX0_put 1 = .ok (.getfield 15, 3) := by decide +kernel
theorem dX0_put_4 : decode cX0_put 4 = .ok (.iload_n 3, 1) := by decide +kernel
theorem dX0_put_5 : decode cX0_put 5 = .ok (.iadd, 1) := by decide +kernel
theorem dX0_put_6 : decode cX0_put 6 = .ok (.aload_n 0, 1) := by decide +kernel
theorem dX0_put_7 : decode cX0_put 7 = .ok (.getfield 9, 3) := by decide +kernel
theorem dX0_put_10 : decode cX0_put 10 = .ok (.arraylength, 1) := by decide +kernel
theorem dX0_put_11 : decode cX0_put 11 = .ok (.if_icmp .le 26, 3) := by decide +kernel
theorem dX0_put_14 : decode cX0_put 14 = .ok (.aload_n 0, 1) := by decide +kernel
theorem dX0_put_15 : decode cX0_put 15 = .ok (.getfield 9, 3) := by decide +kernel
theorem dX0_put_18 : decode cX0_put 18 = .ok (.arraylength, 1) := by decide +kernel
theorem dX0_put_19 : decode cX0_put 19 = .ok (.ldc 19, 2) := by decide +kernel
theorem dX0_put_21 : decode cX0_put 21 = .ok (.if_icmp .ge 16, 3) := by decide +kernel
theorem dX0_put_24 : decode cX0_put 24 = .ok (.aload_n 0, 1) := by decide +kernel
theorem dX0_put_25 : decode cX0_put 25 = .ok (.aload_n 0, 1) := by decide +kernel
theorem dX0_put_26 : decode cX0_put 26 = .ok (.getfield 9, 3) := by decide +kernel
theorem dX0_put_29 : decode cX0_put 29 = .ok (.ldc 19, 2) := by decide +kernel
theorem dX0_put_31 : decode cX0_put 31 = .ok (.invokestatic 20, 3) := by decide +kernel
theorem dX0_put_34 : decode cX0_put 34 = .ok (.putfield 9, 3) := by decide +kernel
theorem dX0_put_37 : decode cX0_put 37 = .ok (.iconst 0, 1) := by decide +kernel
theorem dX0_put_38 : decode cX0_put 38 = .ok (.istore 4, 2) := by decide +kernel
theorem dX0_put_40 : decode cX0_put 40 = .ok (.iload 4, 2) := by decide +kernel
theorem dX0_put_42 : decode cX0_put 42 = .ok (.iload_n 3, 1) := by decide +kernel
theorem dX0_put_43 : decode cX0_put 43 = .ok (.if_icmp .ge 46, 3) := by decide +kernel
theorem dX0_put_46 : decode cX0_put 46 = .ok (.aload_n 0, 1) := by decide +kernel
theorem dX0_put_47 : decode cX0_put 47 = .ok (.getfield 15, 3) := by decide +kernel
theorem dX0_put_50 : decode cX0_put 50 = .ok (.aload_n 0, 1) := by decide +kernel
theorem dX0_put_51 : decode cX0_put 51 = .ok (.getfield 9, 3) := by decide +kernel
theorem dX0_put_54 : decode cX0_put 54 = .ok (.arraylength, 1) := by decide +kernel
theorem dX0_put_55 : decode cX0_put 55 = .ok (.if_icmp .ge 34, 3) := by decide +kernel
theorem dX0_put_58 : decode cX0_put 58 = .ok (.aload_n 0, 1) := by decide +kernel
theorem dX0_put_59 : decode cX0_put 59 = .ok (.getfield 9, 3) := by decide +kernel
theorem dX0_put_62 : decode cX0_put 62 = .ok (.aload_n 0, 1) := by decide +kernel
theorem dX0_put_63 : decode cX0_put 63 = .ok (.dup, 1) := by decide +kernel
theorem dX0_put_64 : decode cX0_put 64 = .ok (.getfield 15, 3) := by decide +kernel
theorem dX0_put_67 : decode cX0_put 67 = .ok (.dup_x1, 1) := by decide +kernel
theorem dX0_put_68 : decode cX0_put 68 = .ok (.iconst 1, 1) := by decide +kernel
theorem dX0_put_69 : decode cX0_put 69 = .ok (.iadd, 1) := by decide +kernel
theorem dX0_put_70 : decode cX0_put 70 = .ok (.putfield 15, 3) := by decide +kernel
theorem dX0_put_73 : decode cX0_put 73 = .ok (.lload_n 1, 1) := by decide +kernel
theorem dX0_put_74 : decode cX0_put 74 = .ok (.bipush 8, 2) := by decide +kernel
theorem dX0_put_76 : decode cX0_put 76 = .ok (.iload 4, 2) := by decide +kernel
theorem dX0_put_78 : decode cX0_put 78 = .ok (.imul, 1) := by decide +kernel
theorem dX0_put_79 : decode cX0_put 79 = .ok (.lushr, 1) := by decide +kernel
theorem dX0_put_80 : decode cX0_put 80 = .ok (.l2i, 1) := by decide +kernel
theorem dX0_put_81 : decode cX0_put 81 = .ok (.i2b, 1) := by decide +kernel
theorem dX0_put_82 : decode cX0_put 82 = .ok (.bastore, 1) := by decide +kernel
theorem dX0_put_83 : decode cX0_put 83 = .ok (.iinc 4 1, 3) := by decide +kernel
theorem dX0_put_86 : decode cX0_put 86 = .ok (.goto (-46), 3) := by decide +kernel
theorem dX0_put_89 : decode cX0_put 89 = .ok (.return_, 1) := by decide +kernel
set_option maxRecDepth 20000 in
theorem ggX0_numberAt_X0_byteAt : GoodIn wsX0_numberAt wsX0_byteAt := goodIn_r _ [5, 6, 7, 8] rfl (by decide +kernel)
set_option maxRecDepth 20000 in
theorem gX0_numberAt_X0_byteAt : GoodIn wsX0_numberAt (wsV RX0 26 RX0 yX0_byteAt wsX0_byteAt) := goodIn_app (goodIn_of _ (by decide +kernel)) ggX0_numberAt_X0_byteAt
theorem dX0_numberAt_0 : decode cX0_numberAt 0 = .ok (.lconst 0, 1) := by decide +kernel
theorem dX0_numberAt_1 : decode cX0_numberAt 1 = .ok (.lstore_n 3, 1) := by decide +kernel
theorem dX0_numberAt_2 : decode cX0_numberAt 2 = .ok (.iconst 0, 1) := by decide +kernel
theorem dX0_numberAt_3 : decode cX0_numberAt 3 = .ok (.istore 5, 2) := by decide +kernel
theorem dX0_numberAt_5 : decode cX0_numberAt 5 = .ok (.iload 5, 2) := by decide +kernel
theorem dX0_numberAt_7 : decode cX0_numberAt 7 = .ok (.iload_n 2, 1) := by decide +kernel
theorem dX0_numberAt_8 : decode cX0_numberAt 8 = .ok (.if_icmp .ge 27, 3) := by decide +kernel
theorem dX0_numberAt_11 : decode cX0_numberAt 11 = .ok (.lload_n 3, 1) := by decide +kernel
theorem dX0_numberAt_12 : decode cX0_numberAt 12 = .ok (.aload_n 0, 1) := by decide +kernel
theorem dX0_numberAt_13 : decode cX0_numberAt 13 = .ok (.iload_n 1, 1) := by decide +kernel
theorem dX0_numberAt_14 : decode cX0_numberAt 14 = .ok (.iload 5, 2) := by decide +kernel
theorem dX0_numberAt_16 : decode cX0_numberAt 16 = .ok (.iadd, 1) := by decide +kernel
theorem dX0_numberAt_17 : decode cX0_numberAt 17 = .ok (.invokevirtual 26, 3) := by decide +kernel
theorem dX0_numberAt_20 : decode cX0_numberAt 20 = .ok (.i2l, 1) := by decide +kernel
theorem dX0_numberAt_21 : decode cX0_numberAt 21 = .ok (.bipush 8, 2) := by decide +kernel
theorem dX0_numberAt_23 : decode cX0_numberAt 23 = .ok (.iload 5, 2) := by decide +kernel
theorem dX0_numberAt_25 : decode cX0_numberAt 25 = .ok (.imul, 1) := by decide +kernel
theorem dX0_numberAt_26 : decode cX0_numberAt 26 = .ok (.lshl, 1) := by decide +kernel
theorem dX0_numberAt_27 : decode cX0_numberAt 27 = .ok (.lor, 1) := by decide +kernel
theorem dX0_numberAt_28 : decode cX0_numberAt 28 = .ok (.lstore_n 3, 1) := by decide +kernel
theorem dX0_numberAt_29 : decode cX0_numberAt 29 = .ok (.iinc 5 1, 3) := by decide +kernel
theorem dX0_numberAt_32 : decode cX0_numberAt 32 = .ok (.goto (-27), 3) := by decide +kernel
theorem dX0_numberAt_35 : decode cX0_numberAt 35 = .ok (.lload_n 3, 1) := by decide +kernel
theorem dX0_numberAt_36 : decode cX0_numberAt 36 = .ok (.lreturn, 1) := by decide +kernel
theorem dX1_init_0 : decode cX1_init 0 = .ok (.aload_n 0, 1) := by decide +kernel
theorem dX1_init_1 : decode cX1_init 1 = .ok (.invokespecial 3, 3) := by decide +kernel
theorem dX1_init_4 : decode cX1_init 4 = .ok (.aload_n 0, 1) := by decide +kernel
theorem dX1_init_5 : decode cX1_init 5 = .ok (.getstatic 9, 3) := by decide +kernel
theorem dX1_init_8 : decode cX1_init 8 = .ok (.putfield 13, 3) := by decide +kernel
theorem dX1_init_11 : decode cX1_init 11 = .ok (.return_, 1) := by decide +kernel
theorem dX1_makeRoom_0 : decode cX1_makeRoom 0 = .ok (.aload_n 0, 1) := by decide +kernel
theorem dX1_makeRoom_1 : decode cX1_makeRoom 1 = .ok (.getfield 13, 3) := by decide +kernel
theorem dX1_makeRoom_4 : decode cX1_makeRoom 4 = .ok (.arraylength, 1) := by decide +kernel
theorem dX1_makeRoom_5 : decode cX1_makeRoom 5 = .ok (.sipush 1024, 3) := by decide +kernel
theorem dX1_makeRoom_8 : decode cX1_makeRoom 8 = .ok (.if_icmp .ge 12, 3) := by decide +kernel
theorem dX1_makeRoom_11 : decode cX1_makeRoom 11 = .ok (.aload_n 0, 1) := by decide +kernel
theorem dX1_makeRoom_12 : decode cX1_makeRoom 12 = .ok (.sipush 1024, 3) := by decide +kernel
theorem dX1_makeRoom_15 : decode cX1_makeRoom 15 = .ok (.newarray .long, 2) := by decide +kernel
theorem dX1_makeRoom_17 : decode cX1_makeRoom 17 = .ok (.putfield 13, 3) := by decide +kernel
theorem dX1_makeRoom_20 : decode cX1_makeRoom 20 = .ok (.return_, 1) := by decide +kernel
set_option maxRecDepth 20000 in
theorem ggX1_begin_X1_makeRoom : GoodIn wsX1_begin wsX1_makeRoom := goodIn_r _ [9, 1, 10, 15, 16, 17, 18] rfl (by decide +kernel)
set_option maxRecDepth 20000 in
theorem gX1_begin_X1_makeRoom : GoodIn wsX1_begin (wsV RX1 18 RX1 yX1_makeRoom wsX1_makeRoom) := goodIn_app (goodIn_of _ (by decide +kernel)) ggX1_begin_X1_makeRoom
set_option maxRecDepth 20000 in
theorem ggX1_begin_J7_fill_d0a16 : GoodIn wsX1_begin wsJ7_fill_d0a16 := goodIn_r _ [14] rfl (by decide +kernel)
set_option maxRecDepth 20000 in
theorem gX1_begin_J7_fill_d0a16 : GoodIn wsX1_begin (va_wsS RX1 21 yJ7_fill_d0a16 wsJ7_fill_d0a16) := goodIn_app (goodIn_of _ (by decide +kernel)) ggX1_begin_J7_fill_d0a16
theorem dX1_begin_0 : decode cX1_begin 0 = .ok (.aload_n 0, 1) := by decide +kernel
theorem dX1_begin_1 : decode cX1_begin 1 = .ok (.invokevirtual 18, 3) := by decide +kernel
theorem dX1_begin_4 : decode cX1_begin 4 = .ok (.aload_n 0, 1) := by decide +kernel
theorem dX1_begin_5 : decode cX1_begin 5 = .ok (.getfield 13, 3) := by decide +kernel
theorem dX1_begin_8 : decode cX1_begin 8 = .ok (.lconst 0, 1) := by decide +kernel
theorem dX1_begin_9 : decode cX1_begin 9 = .ok (.invokestatic 21, 3) := by decide +kernel
theorem dX1_begin_12 : decode cX1_begin 12 = .ok (.aload_n 0, 1) := by decide +kernel
theorem dX1_begin_13 : decode cX1_begin 13 = .ok (.iload_n 1, 1) := by decide +kernel
theorem dX1_begin_14 : decode cX1_begin 14 = .ok (.putfield 27, 3) := by decide +kernel
theorem dX1_begin_17 : decode cX1_begin 17 = .ok (.aload_n 0, 1) := by decide +kernel
theorem dX1_begin_18 : decode cX1_begin 18 = .ok (.iconst 0, 1) := by decide +kernel
theorem dX1_begin_19 : decode cX1_begin 19 = .ok (.putfield 31, 3) := by decide +kernel
theorem dX1_begin_22 : decode cX1_begin 22 = .ok (.aload_n 0, 1) := by decide +kernel
theorem dX1_begin_23 : decode cX1_begin 23 = .ok (.iconst 0, 1) := by decide +kernel
theorem dX1_begin_24 : decode cX1_begin 24 = .ok (.putfield 34, 3) := by decide +kernel
theorem dX1_begin_27 : decode cX1_begin 27 = .ok (.return_, 1) := by decide +kernel
set_option maxRecDepth 20000 in
theorem ggX1_copyLowsOf_X1_makeRoom : GoodIn wsX1_copyLowsOf wsX1_makeRoom := goodIn_r _ [13, 1, 14, 15, 16, 17, 18] rfl (by decide +kernel)
set_option maxRecDepth 20000 in
theorem gX1_copyLowsOf_X1_makeRoom : GoodIn wsX1_copyLowsOf (wsV RX1 18 RX1 yX1_makeRoom wsX1_makeRoom) := goodIn_app (goodIn_of _ (by decide +kernel)) ggX1_copyLowsOf_X1_makeRoom
theorem dX1_copyLowsOf_0 : decode cX1_copyLowsOf 0 = .ok (.aload_n 0, 1) := by decide +kernel
theorem dX1_copyLowsOf_1 : decode cX1_copyLowsOf 1 = .ok (.invokevirtual 18, 3) := by decide +kernel
theorem dX1_copyLowsOf_4 : decode cX1_copyLowsOf 4 = .ok (.aload_n 1, 1) := by decide +kernel
theorem dX1_copyLowsOf_5 : decode cX1_copyLowsOf 5 = .ok (.getfield 13, 3) := by decide +kernel
theorem dX1_copyLowsOf_8 : decode cX1_copyLowsOf 8 = .ok (.iconst 0, 1) := by decide +kernel
theorem dX1_copyLowsOf_9 : decode cX1_copyLowsOf 9 = .ok (.aload_n 0, 1) := by decide +kernel
theorem dX1_copyLowsOf_10 : decode cX1_copyLowsOf 10 = .ok (.getfield 13, 3) := by decide +kernel
theorem dX1_copyLowsOf_13 : decode cX1_copyLowsOf 13 = .ok (.iconst 0, 1) := by decide +kernel
theorem dX1_copyLowsOf_14 : decode cX1_copyLowsOf 14 = .ok (.sipush 1024, 3) := by decide +kernel
theorem dX1_copyLowsOf_17 : decode cX1_copyLowsOf 17 = .ok (.invokestatic 37, 3) := by decide +kernel
theorem dX1_copyLowsOf_20 : decode cX1_copyLowsOf 20 = .ok (.aload_n 0, 1) := by decide +kernel
theorem dX1_copyLowsOf_21 : decode cX1_copyLowsOf 21 = .ok (.aload_n 1, 1) := by decide +kernel
theorem dX1_copyLowsOf_22 : decode cX1_copyLowsOf 22 = .ok (.getfield 27, 3) := by decide +kernel
theorem dX1_copyLowsOf_25 : decode cX1_copyLowsOf 25 = .ok (.putfield 27, 3) := by decide +kernel
theorem dX1_copyLowsOf_28 : decode cX1_copyLowsOf 28 = .ok (.aload_n 0, 1) := by decide +kernel
theorem dX1_copyLowsOf_29 : decode cX1_copyLowsOf 29 = .ok (.aload_n 1, 1) := by decide +kernel
theorem dX1_copyLowsOf_30 : decode cX1_copyLowsOf 30 = .ok (.getfield 31, 3) := by decide +kernel
theorem dX1_copyLowsOf_33 : decode cX1_copyLowsOf 33 = .ok (.putfield 31, 3) := by decide +kernel
theorem dX1_copyLowsOf_36 : decode cX1_copyLowsOf 36 = .ok (.aload_n 0, 1) := by decide +kernel
theorem dX1_copyLowsOf_37 : decode cX1_copyLowsOf 37 = .ok (.aload_n 1, 1) := by decide +kernel
theorem dX1_copyLowsOf_38 : decode cX1_copyLowsOf 38 = .ok (.getfield 34, 3) := by decide +kernel
theorem dX1_copyLowsOf_41 : decode cX1_copyLowsOf 41 = .ok (.putfield 34, 3) := by decide +kernel
theorem dX1_copyLowsOf_44 : decode cX1_copyLowsOf 44 = .ok (.return_, 1) := by decide +kernel
theorem dX1_setPlainKind_0 : decode cX1_setPlainKind 0 = .ok (.aload_n 0, 1) := by decide +kernel
theorem dX1_setPlainKind_1 : decode cX1_setPlainKind 1 = .ok (.aload_n 0, 1) := by decide +kernel
theorem dX1_setPlainKind_2 : decode cX1_setPlainKind 2 = .ok (.getfield 34, 3) := by decide +kernel
theorem dX1_setPlainKind_5 : decode cX1_setPlainKind 5 = .ok (.sipush 4096, 3) := by decide +kernel
theorem dX1_setPlainKind_8 : decode cX1_setPlainKind 8 = .ok (.if_icmp .gt 7, 3) := by decide +kernel
theorem dX1_setPlainKind_11 : decode cX1_setPlainKind 11 = .ok (.iconst 0, 1) := by decide +kernel
theorem dX1_setPlainKind_12 : decode cX1_setPlainKind 12 = .ok (.goto 4, 3) := by decide +kernel
theorem dX1_setPlainKind_15 : decode cX1_setPlainKind 15 = .ok (.iconst 1, 1) := by decide +kernel
theorem dX1_setPlainKind_16 : decode cX1_setPlainKind 16 = .ok (.putfield 31, 3) := by decide +kernel
theorem dX1_setPlainKind_19 : decode cX1_setPlainKind 19 = .ok (.return_, 1) := by decide +kernel
set_option maxRecDepth 20000 in
theorem ggX1_setSmallestKind_X1_totalRuns : GoodIn wsX1_setSmallestKind wsX1_totalRuns := goodIn_r _ [7, 8, 9, 10, 11, 12, 13, 14, 15, 16, 21, 22, 23, 24] rfl (by decide +kernel)
set_option maxRecDepth 20000 in
theorem gX1_setSmallestKind_X1_totalRuns : GoodIn wsX1_setSmallestKind (wsV RX1 43 RX1 yX1_totalRuns wsX1_totalRuns) := goodIn_app (goodIn_of _ (by decide +kernel)) ggX1_setSmallestKind_X1_totalRuns
set_option maxRecDepth 20000 in
theorem ggX1_setSmallestKind_X1_setPlainKind : GoodIn wsX1_setSmallestKind wsX1_setPlainKind := goodIn_r _ [20, 1, 2, 21, 22, 23, 24] rfl (by decide +kernel)
set_option maxRecDepth 20000 in
theorem gX1_setSmallestKind_X1_setPlainKind : GoodIn wsX1_setSmallestKind (wsV RX1 47 RX1 yX1_setPlainKind wsX1_setPlainKind) := goodIn_app (goodIn_of _ (by decide +kernel)) ggX1_setSmallestKind_X1_setPlainKind
theorem dX1_setSmallestKind_0 : decode cX1_setSmallestKind 0 = .ok (.aload_n 0, 1) := by decide +kernel
theorem dX1_setSmallestKind_1 : decode cX1_setSmallestKind 1 = .ok (.getfield 34, 3) := by decide +kernel
theorem dX1_setSmallestKind_4 : decode cX1_setSmallestKind 4 = .ok (.sipush 4096, 3) := by decide +kernel
theorem dX1_setSmallestKind_7 : decode cX1_setSmallestKind 7 = .ok (.if_icmp .gt 12, 3) := by decide +kernel
theorem dX1_setSmallestKind_10 : decode cX1_setSmallestKind 10 = .ok (.iconst 2, 1) := by decide +kernel
theorem dX1_setSmallestKind_11 : decode cX1_setSmallestKind 11 = .ok (.aload_n 0, 1) := by decide +kernel
theorem dX1_setSmallestKind_12 : decode cX1_setSmallestKind 12 = .ok (.getfield 34, 3) := by decide +kernel
theorem dX1_setSmallestKind_15 : decode cX1_setSmallestKind 15 = .ok (.imul, 1) := by decide +kernel
theorem dX1_setSmallestKind_16 : decode cX1_setSmallestKind 16 = .ok (.goto 6, 3) := by decide +kernel
theorem dX1_setSmallestKind_19 : decode cX1_setSmallestKind 19 = .ok (.sipush 8192, 3) := by decide +kernel
theorem dX1_setSmallestKind_22 : decode cX1_setSmallestKind 22 = .ok (.istore_n 1, 1) := by decide +kernel
theorem dX1_setSmallestKind_23 : decode cX1_setSmallestKind 23 = .ok (.iconst 2, 1) := by decide +kernel
theorem dX1_setSmallestKind_24 : decode cX1_setSmallestKind 24 = .ok (.iconst 4, 1) := by decide +kernel
theorem dX1_setSmallestKind_25 : decode cX1_setSmallestKind 25 = .ok (.aload_n 0, 1) := by decide +kernel
theorem dX1_setSmallestKind_26 : decode cX1_setSmallestKind 26 = .ok (.invokevirtual 43, 3) := by decide +kernel
theorem dX1_setSmallestKind_29 : decode cX1_setSmallestKind 29 = .ok (.imul, 1) := by decide +kernel
theorem dX1_setSmallestKind_30 : decode cX1_setSmallestKind 30 = .ok (.iadd, 1) := by decide +kernel
theorem dX1_setSmallestKind_31 : decode cX1_setSmallestKind 31 = .ok (.iload_n 1, 1) := by decide +kernel
theorem dX1_setSmallestKind_32 : decode cX1_setSmallestKind 32 = .ok (.if_icmp .ge 11, 3) := by decide +kernel
theorem dX1_setSmallestKind_35 : decode cX1_setSmallestKind 35 = .ok (.aload_n 0, 1) := by decide +kernel
theorem dX1_setSmallestKind_36 : decode cX1_setSmallestKind 36 = .ok (.iconst 2, 1) := by decide +kernel
theorem dX1_setSmallestKind_37 : decode cX1_setSmallestKind 37 = .ok (.putfield 31, 3) := by decide +kernel
theorem dX1_setSmallestKind_40 : decode cX1_setSmallestKind 40 = .ok (.goto 7, 3) := by decide +kernel
theorem dX1_setSmallestKind_43 : decode cX1_setSmallestKind 43 = .ok (.aload_n 0, 1) := by decide +kernel
theorem dX1_setSmallestKind_44 : decode cX1_setSmallestKind 44 = .ok (.invokevirtual 47, 3) := by decide +kernel
theorem dX1_setSmallestKind_47 : decode cX1_setSmallestKind 47 = .ok (.return_, 1) := by decide +kernel
theorem dX1_holds_0 : decode cX1_holds 0 = .ok (.aload_n 0, 1) := by decide +kernel
theorem dX1_holds_1 : decode cX1_holds 1 = .ok (.getfield 13, 3) := by decide +kernel
theorem dX1_holds_4 : decode cX1_holds 4 = .ok (.iload_n 1, 1) := by decide +kernel
theorem dX1_holds_5 : decode cX1_holds 5 = .ok (.bipush 6, 2) := by decide +kernel
theorem dX1_holds_7 : decode cX1_holds 7 = .ok (.ishr, 1) := by decide +kernel
theorem dX1_holds_8 : decode cX1_holds 8 = .ok (.laload, 1) := by decide +kernel
theorem dX1_holds_9 : decode cX1_holds 9 = .ok (.iload_n 1, 1) := by decide +kernel
theorem dX1_holds_10 : decode cX1_holds 10 = .ok (.lushr, 1) := by decide +kernel
theorem dX1_holds_11 : decode cX1_holds 11 = .ok (.lconst 1, 1) := by decide +kernel
theorem dX1_holds_12 : decode cX1_holds 12 = .ok (.land, 1) := by decide +kernel
theorem dX1_holds_13 : decode cX1_holds 13 = .ok (.lconst 0, 1) := by decide +kernel
theorem dX1_holds_14 : decode cX1_holds 14 = .ok (.lcmp, 1) := by decide +kernel
theorem dX1_holds_15 : decode cX1_holds 15 = .ok (.ifCond .eq 7, 3) := by decide +kernel
theorem dX1_holds_18 : decode cX1_holds 18 = .ok (.iconst 1, 1) := by decide +kernel
theorem dX1_holds_19 : decode cX1_holds 19 = .ok (.goto 4, 3) := by decide +kernel
theorem dX1_holds_22 : decode cX1_holds 22 = .ok (.iconst 0, 1) := by decide +kernel
theorem dX1_holds_23 : decode cX1_holds 23 = .ok (.ireturn, 1) := by decide +kernel
set_option maxRecDepth 20000 in
theorem ggX1_changeLows_X1_upTo : GoodIn wsX1_changeLows wsX1_upTo := goodIn_r _ [7, 1] rfl (by decide +kernel)
set_option maxRecDepth 20000 in
theorem gX1_changeLows_X1_upTo : GoodIn wsX1_changeLows (va_wsS RX1 52 yX1_upTo wsX1_upTo) := goodIn_app (goodIn_of _ (by decide +kernel)) ggX1_changeLows_X1_upTo
set_option maxRecDepth 20000 in
theorem ggX1_changeLows_J13_bitCount_95d88 : GoodIn wsX1_changeLows wsJ13_bitCount_95d88 := goodIn_r _ [11, 12, 13, 14] rfl (by decide +kernel)
set_option maxRecDepth 20000 in
theorem gX1_changeLows_J13_bitCount_95d88 : GoodIn wsX1_changeLows (va_wsS RX1 56 yJ13_bitCount_95d88 wsJ13_bitCount_95d88) := goodIn_app (goodIn_of _ (by decide +kernel)) ggX1_changeLows_J13_bitCount_95d88
theorem dX1_changeLows_0 : decode cX1_changeLows 0 = .ok (.iconst 0, 1) := by decide +kernel
theorem dX1_changeLows_1 : decode cX1_changeLows 1 = .ok (.istore 4, 2) := by decide +kernel
theorem dX1_changeLows_3 : decode cX1_changeLows 3 = .ok (.iload_n 1, 1) := by decide +kernel
theorem dX1_changeLows_4 : decode cX1_changeLows 4 = .ok (.bipush 6, 2) := by decide +kernel
theorem dX1_changeLows_6 : decode cX1_changeLows 6 = .ok (.ishr, 1) := by decide +kernel
theorem dX1_changeLows_7 : decode cX1_changeLows 7 = .ok (.istore 5, 2) := by decide +kernel
theorem dX1_changeLows_9 : decode cX1_changeLows 9 = .ok (.iload_n 2, 1) := by decide +kernel
theorem dX1_changeLows_10 : decode cX1_changeLows 10 = .ok (.bipush 6, 2) := by decide +kernel
theorem dX1_changeLows_12 : decode cX1_changeLows 12 = .ok (.ishr, 1) := by decide +kernel
theorem dX1_changeLows_13 : decode cX1_changeLows 13 = .ok (.istore 6, 2) := by decide +kernel
theorem dX1_changeLows_15 : decode cX1_changeLows 15 = .ok (.iload 5, 2) := by decide +kernel
theorem dX1_changeLows_17 : decode cX1_changeLows 17 = .ok (.istore 7, 2) := by decide +kernel
theorem dX1_changeLows_19 : decode cX1_changeLows 19 = .ok (.iload 7, 2) := by decide +kernel
theorem dX1_changeLows_21 : decode cX1_changeLows 21 = .ok (.iload 6, 2) := by decide +kernel
theorem dX1_changeLows_23 : decode cX1_changeLows 23 = .ok (.if_icmp .gt 137, 3) := by decide +kernel
theorem dX1_changeLows_26 : decode cX1_changeLows 26 = .ok (.iload 7, 2) := by decide +kernel
theorem dX1_changeLows_28 : decode cX1_changeLows 28 = .ok (.iload 5, 2) := by decide +kernel
theorem dX1_changeLows_30 : decode cX1_changeLows 30 = .ok (.if_icmp .ne 11, 3) := by decide +kernel
theorem dX1_changeLows_33 : decode cX1_changeLows 33 = .ok (.ldc2_w 50, 3) := by decide +kernel
theorem dX1_changeLows_36 : decode cX1_changeLows 36 = .ok (.iload_n 1, 1) := by decide +kernel
theorem dX1_changeLows_37 : decode cX1_changeLows 37 = .ok (.lshl, 1) := by decide +kernel
theorem dX1_changeLows_38 : decode cX1_changeLows 38 = .ok (.goto 6, 3) := by decide +kernel
theorem dX1_changeLows_41 : decode cX1_changeLows 41 = .ok (.ldc2_w 50, 3) := by decide +kernel
theorem dX1_changeLows_44 : decode cX1_changeLows 44 = .ok (.lstore 8, 2) := by decide +kernel
theorem dX1_changeLows_46 : decode cX1_changeLows 46 = .ok (.iload 7, 2) := by decide +kernel
theorem dX1_changeLows_48 : decode cX1_changeLows 48 = .ok (.iload 6, 2) := by decide +kernel
theorem dX1_changeLows_50 : decode cX1_changeLows 50 = .ok (.if_icmp .ne 12, 3) := by decide +kernel
theorem dX1_changeLows_53 : decode cX1_changeLows 53 = .ok (.lload 8, 2) := by decide +kernel
theorem dX1_changeLows_55 : decode cX1_changeLows 55 = .ok (.iload_n 2, 1) := by decide +kernel
theorem dX1_changeLows_56 : decode cX1_changeLows 56 = .ok (.invokestatic 52, 3) := by decide +kernel
theorem dX1_changeLows_59 : decode cX1_changeLows 59 = .ok (.land, 1) := by decide +kernel
theorem dX1_changeLows_60 : decode cX1_changeLows 60 = .ok (.lstore 8, 2) := by decide +kernel
theorem dX1_changeLows_62 : decode cX1_changeLows 62 = .ok (.aload_n 0, 1) := by decide +kernel
theorem dX1_changeLows_63 : decode cX1_changeLows 63 = .ok (.getfield 13, 3) := by decide +kernel
theorem dX1_changeLows_66 : decode cX1_changeLows 66 = .ok (.iload 7, 2) := by decide +kernel
theorem dX1_changeLows_68 : decode cX1_changeLows 68 = .ok (.laload, 1) := by decide +kernel
theorem dX1_changeLows_69 : decode cX1_changeLows 69 = .ok (.lstore 10, 2) := by decide +kernel
theorem dX1_changeLows_71 : decode cX1_changeLows 71 = .ok (.iload_n 3, 1) := by decide +kernel
theorem dX1_changeLows_72 : decode cX1_changeLows 72 = .ok (.ifCond .ne 11, 3) := by decide +kernel
theorem dX1_changeLows_75 : decode cX1_changeLows 75 = .ok (.lload 10, 2) := by decide +kernel
theorem dX1_changeLows_77 : decode cX1_changeLows 77 = .ok (.lload 8, 2) := by decide +kernel
theorem dX1_changeLows_79 : decode cX1_changeLows 79 = .ok (.lor, 1) := by decide +kernel
theorem dX1_changeLows_80 : decode cX1_changeLows 80 = .ok (.goto 25, 3) := by decide +kernel
theorem dX1_changeLows_83 : decode cX1_changeLows 83 = .ok (.iload_n 3, 1) := by decide +kernel
theorem dX1_changeLows_84 : decode cX1_changeLows 84 = .ok (.iconst 1, 1) := by decide +kernel
theorem dX1_changeLows_85 : decode cX1_changeLows 85 = .ok (.if_icmp .ne 15, 3) := by decide +kernel
theorem dX1_changeLows_88 : decode cX1_changeLows 88 = .ok (.lload 10, 2) := by decide +kernel
theorem dX1_changeLows_90 : decode cX1_changeLows 90 = .ok (.lload 8, 2) := by decide +kernel
theorem dX1_changeLows_92 : decode cX1_changeLows 92 = .ok (.ldc2_w 50, 3) := by decide +kernel
theorem dX1_changeLows_95 : decode cX1_changeLows 95 = .ok (.lxor, 1) := by decide +kernel
theorem dX1_changeLows_96 : decode cX1_changeLows 96 = .ok (.land, 1) := by decide +kernel
theorem dX1_changeLows_97 : decode cX1_changeLows 97 = .ok (.goto 8, 3) := by decide +kernel
theorem dX1_changeLows_100 : decode cX1_changeLows 100 = .ok (.lload 10, 2) := by decide +kernel
theorem dX1_changeLows_102 : decode cX1_changeLows 102 = .ok (.lload 8, 2) := by decide +kernel
theorem dX1_changeLows_104 : decode cX1_changeLows 104 = .ok (.lxor, 1) := by decide +kernel
theorem dX1_changeLows_105 : decode cX1_changeLows 105 = .ok (.lstore 12, 2) := by decide +kernel
theorem dX1_changeLows_107 : decode cX1_changeLows 107 = .ok (.aload_n 0, 1) := by decide +kernel
theorem dX1_changeLows_108 : decode cX1_changeLows 108 = .ok (.getfield 13, 3) := by decide +kernel
theorem dX1_changeLows_111 : decode cX1_changeLows 111 = .ok (.iload 7, 2) := by decide +kernel
theorem dX1_changeLows_113 : decode cX1_changeLows 113 = .ok (.lload 12, 2) := by decide +kernel
theorem dX1_changeLows_115 : decode cX1_changeLows 115 = .ok (.lastore, 1) := by decide +kernel
theorem dX1_changeLows_116 : decode cX1_changeLows 116 = .ok (.aload_n 0, 1) := by decide +kernel
theorem dX1_changeLows_117 : decode cX1_changeLows 117 = .ok (.dup, 1) := by decide +kernel
theorem dX1_changeLows_118 : decode cX1_changeLows 118 = .ok (.getfield 34, 3) := by decide +kernel
theorem dX1_changeLows_121 : decode cX1_changeLows 121 = .ok (.lload 12, 2) := by decide +kernel
theorem dX1_changeLows_123 : decode cX1_changeLows 123 = .ok (.invokestatic 56, 3) := by decide +kernel
theorem dX1_changeLows_126 : decode cX1_changeLows 126 = .ok (.lload 10, 2) := by decide +kernel
theorem dX1_changeLows_128 : decode cX1_changeLows 128 = .ok (.invokestatic 56, 3) := by decide +kernel
theorem dX1_changeLows_131 : decode cX1_changeLows 131 = .ok (.isub, 1) := by decide +kernel
theorem dX1_changeLows_132 : decode cX1_changeLows 132 = .ok (.iadd, 1) := by decide +kernel
theorem dX1_changeLows_133 : decode cX1_changeLows 133 = .ok (.putfield 34, 3) := by decide +kernel
theorem dX1_changeLows_136 : decode cX1_changeLows 136 = .ok (.iload 4, 2) := by decide +kernel
theorem dX1_changeLows_138 : decode cX1_changeLows 138 = .ok (.lload 12, 2) := by decide +kernel
theorem dX1_changeLows_140 : decode cX1_changeLows 140 = .ok (.lload 10, 2) := by decide +kernel
theorem dX1_changeLows_142 : decode cX1_changeLows 142 = .ok (.lcmp, 1) := by decide +kernel
theorem dX1_changeLows_143 : decode cX1_changeLows 143 = .ok (.ifCond .eq 7, 3) := by decide +kernel
theorem dX1_changeLows_146 : decode cX1_changeLows 146 = .ok (.iconst 1, 1) := by decide +kernel
theorem dX1_changeLows_147 : decode cX1_changeLows 147 = .ok (.goto 4, 3) := by decide +kernel
theorem dX1_changeLows_150 : decode cX1_changeLows 150 = .ok (.iconst 0, 1) := by decide +kernel
theorem dX1_changeLows_151 : decode cX1_changeLows 151 = .ok (.ior, 1) := by decide +kernel
theorem dX1_changeLows_152 : decode cX1_changeLows 152 = .ok (.istore 4, 2) := by decide +kernel
theorem dX1_changeLows_154 : decode cX1_changeLows 154 = .ok (.iinc 7 1, 3) := by decide +kernel
theorem dX1_changeLows_157 : decode cX1_changeLows 157 = .ok (.goto (-138), 3) := by decide +kernel
theorem dX1_changeLows_160 : decode cX1_changeLows 160 = .ok (.iload 4, 2) := by decide +kernel
theorem dX1_changeLows_162 : decode cX1_changeLows 162 = .ok (.ireturn, 1) := by decide +kernel
set_option maxRecDepth 20000 in
theorem ggX1_putLowsBySteps_X1_holds : GoodIn wsX1_putLowsBySteps wsX1_holds := goodIn_r _ [8, 3, 9, 10, 11, 12] rfl (by decide +kernel)
set_option maxRecDepth 20000 in
theorem gX1_putLowsBySteps_X1_holds : GoodIn wsX1_putLowsBySteps (wsV RX1 63 RX1 yX1_holds wsX1_holds) := goodIn_app (goodIn_of _ (by decide +kernel)) ggX1_putLowsBySteps_X1_holds
theorem dX1_putLowsBySteps_0 : decode cX1_putLowsBySteps 0 = .ok (.iload_n 2, 1) := by decide +kernel
theorem dX1_putLowsBySteps_1 : decode cX1_putLowsBySteps 1 = .ok (.iconst 1, 1) := by decide +kernel
theorem dX1_putLowsBySteps_2 : decode cX1_putLowsBySteps 2 = .ok (.if_icmp .ge 5, 3) := by decide +kernel
theorem dX1_putLowsBySteps_7 : decode cX1_putLowsBySteps 7 = .ok (.aload_n 0, 1) := by decide +kernel
theorem dX1_putLowsBySteps_8 : decode cX1_putLowsBySteps 8 = .ok (.getfield 34, 3) := by decide +kernel
theorem dX1_putLowsBySteps_11 : decode cX1_putLowsBySteps 11 = .ok (.istore_n 3, 1) := by decide +kernel
theorem dX1_putLowsBySteps_12 : decode cX1_putLowsBySteps 12 = .ok (.iload_n 1, 1) := by decide +kernel
theorem dX1_putLowsBySteps_13 : decode cX1_putLowsBySteps 13 = .ok (.istore 4, 2) := by decide +kernel
theorem dX1_putLowsBySteps_15 : decode cX1_putLowsBySteps 15 = .ok (.iload 4, 2) := by decide +kernel
theorem dX1_putLowsBySteps_17 : decode cX1_putLowsBySteps 17 = .ok (.ldc 62, 2) := by decide +kernel
theorem dX1_putLowsBySteps_19 : decode cX1_putLowsBySteps 19 = .ok (.if_icmp .gt 48, 3) := by decide +kernel
theorem dX1_putLowsBySteps_22 : decode cX1_putLowsBySteps 22 = .ok (.aload_n 0, 1) := by decide +kernel
theorem dX1_putLowsBySteps_23 : decode cX1_putLowsBySteps 23 = .ok (.iload 4, 2) := by decide +kernel
theorem dX1_putLowsBySteps_25 : decode cX1_putLowsBySteps 25 = .ok (.invokevirtual 63, 3) := by decide +kernel
theorem dX1_putLowsBySteps_28 : decode cX1_putLowsBySteps 28 = .ok (.ifCond .ne 30, 3) := by decide +kernel
theorem dX1_putLowsBySteps_31 : decode cX1_putLowsBySteps 31 = .ok (.aload_n 0, 1) := by decide +kernel
theorem dX1_putLowsBySteps_32 : decode cX1_putLowsBySteps 32 = .ok (.getfield 13, 3) := by decide +kernel
theorem dX1_putLowsBySteps_35 : decode cX1_putLowsBySteps 35 = .ok (.iload 4, 2) := by decide +kernel
theorem dX1_putLowsBySteps_37 : decode cX1_putLowsBySteps 37 = .ok (.bipush 6, 2) := by decide +kernel
theorem dX1_putLowsBySteps_39 : decode cX1_putLowsBySteps 39 = .ok (.ishr, 1) := by decide +kernel
theorem dX1_putLowsBySteps_40 : decode cX1_putLowsBySteps 40 = .ok (.dup2, 1) := by decide +kernel
theorem dX1_putLowsBySteps_41 : decode cX1_putLowsBySteps 41 = .ok (.laload, 1) := by decide +kernel
theorem dX1_putLowsBySteps_42 : decode cX1_putLowsBySteps 42 = .ok (.lconst 1, 1) := by decide +kernel
theorem dX1_putLowsBySteps_43 : decode cX1_putLowsBySteps 43 = .ok (.iload 4, 2) := by decide +kernel
theorem dX1_putLowsBySteps_45 : decode cX1_putLowsBySteps 45 = .ok (.lshl, 1) := by decide +kernel
theorem dX1_putLowsBySteps_46 : decode cX1_putLowsBySteps 46 = .ok (.lor, 1) := by decide +kernel
theorem dX1_putLowsBySteps_47 : decode cX1_putLowsBySteps 47 = .ok (.lastore, 1) := by decide +kernel
theorem dX1_putLowsBySteps_48 : decode cX1_putLowsBySteps 48 = .ok (.aload_n 0, 1) := by decide +kernel
theorem dX1_putLowsBySteps_49 : decode cX1_putLowsBySteps 49 = .ok (.dup, 1) := by decide +kernel
theorem dX1_putLowsBySteps_50 : decode cX1_putLowsBySteps 50 = .ok (.getfield 34, 3) := by decide +kernel
theorem dX1_putLowsBySteps_53 : decode cX1_putLowsBySteps 53 = .ok (.iconst 1, 1) := by decide +kernel
theorem dX1_putLowsBySteps_54 : decode cX1_putLowsBySteps 54 = .ok (.iadd, 1) := by decide +kernel
theorem dX1_putLowsBySteps_55 : decode cX1_putLowsBySteps 55 = .ok (.putfield 34, 3) := by decide +kernel
theorem dX1_putLowsBySteps_58 : decode cX1_putLowsBySteps 58 = .ok (.iload 4, 2) := by decide +kernel
theorem dX1_putLowsBySteps_60 : decode cX1_putLowsBySteps 60 = .ok (.iload_n 2, 1) := by decide +kernel
theorem dX1_putLowsBySteps_61 : decode cX1_putLowsBySteps 61 = .ok (.iadd, 1) := by decide +kernel
theorem dX1_putLowsBySteps_62 : decode cX1_putLowsBySteps 62 = .ok (.istore 4, 2) := by decide +kernel
theorem dX1_putLowsBySteps_64 : decode cX1_putLowsBySteps 64 = .ok (.goto (-49), 3) := by decide +kernel
theorem dX1_putLowsBySteps_67 : decode cX1_putLowsBySteps 67 = .ok (.aload_n 0, 1) := by decide +kernel
theorem dX1_putLowsBySteps_68 : decode cX1_putLowsBySteps 68 = .ok (.getfield 34, 3) := by decide +kernel
theorem dX1_putLowsBySteps_71 : decode cX1_putLowsBySteps 71 = .ok (.iload_n 3, 1) := by decide +kernel
theorem dX1_putLowsBySteps_72 : decode cX1_putLowsBySteps 72 = .ok (.if_icmp .eq 7, 3) := by decide +kernel
theorem dX1_putLowsBySteps_75 : decode cX1_putLowsBySteps 75 = .ok (.iconst 1, 1) := by decide +kernel
theorem dX1_putLowsBySteps_76 : decode cX1_putLowsBySteps 76 = .ok (.goto 4, 3) := by decide +kernel
theorem dX1_putLowsBySteps_79 : decode cX1_putLowsBySteps 79 = .ok (.iconst 0, 1) := by decide +kernel
theorem dX1_putLowsBySteps_80 : decode cX1_putLowsBySteps 80 = .ok (.ireturn, 1) := by decide +kernel
set_option maxRecDepth 20000 in
theorem ggX1_becomeMix_X1_makeRoom : GoodIn wsX1_becomeMix wsX1_makeRoom := goodIn_r _ [9, 3, 10, 34, 35, 36, 37] rfl (by decide +kernel)
set_option maxRecDepth 20000 in
theorem gX1_becomeMix_X1_makeRoom : GoodIn wsX1_becomeMix (wsV RX1 18 RX1 yX1_makeRoom wsX1_makeRoom) := goodIn_app (goodIn_of _ (by decide +kernel)) ggX1_becomeMix_X1_makeRoom
set_option maxRecDepth 20000 in
theorem ggX1_becomeMix_X1_mix : GoodIn wsX1_becomeMix wsX1_mix := goodIn_r _ [13, 14] rfl (by decide +kernel)
set_option maxRecDepth 20000 in
theorem gX1_becomeMix_X1_mix : GoodIn wsX1_becomeMix (va_wsS RX1 67 yX1_mix wsX1_mix) := goodIn_app (goodIn_of _ (by decide +kernel)) ggX1_becomeMix_X1_mix
set_option maxRecDepth 20000 in
theorem ggX1_becomeMix_J13_bitCount_95d88 : GoodIn wsX1_becomeMix wsJ13_bitCount_95d88 := goodIn_r _ [18, 19, 20, 21] rfl (by decide +kernel)
set_option maxRecDepth 20000 in
theorem gX1_becomeMix_J13_bitCount_95d88 : GoodIn wsX1_becomeMix (va_wsS RX1 56 yJ13_bitCount_95d88 wsJ13_bitCount_95d88) := goodIn_app (goodIn_of _ (by decide +kernel)) ggX1_becomeMix_J13_bitCount_95d88
set_option maxRecDepth 20000 in
theorem ggX1_becomeMix_X1_hasLowsOf : GoodIn wsX1_becomeMix wsX1_hasLowsOf := goodIn_r _ [25, 2, 26, 27, 28, 8, 29, 3, 14, 34, 35, 36, 37] rfl (by decide +kernel)
set_option maxRecDepth 20000 in
theorem gX1_becomeMix_X1_hasLowsOf : GoodIn wsX1_becomeMix (wsV RX1 71 RX1 yX1_hasLowsOf wsX1_hasLowsOf) := goodIn_app (goodIn_of _ (by decide +kernel)) ggX1_becomeMix_X1_hasLowsOf
set_option maxRecDepth 20000 in
theorem ggX1_becomeMix_X1_setPlainKind : GoodIn wsX1_becomeMix wsX1_setPlainKind := goodIn_r _ [33, 2, 4, 34, 35, 36, 37] rfl (by decide +kernel)
set_option maxRecDepth 20000 in
theorem gX1_becomeMix_X1_setPlainKind : GoodIn wsX1_becomeMix (wsV RX1 47 RX1 yX1_setPlainKind wsX1_setPlainKind) := goodIn_app (goodIn_of _ (by decide +kernel)) ggX1_becomeMix_X1_setPlainKind
theorem dX1_becomeMix_0 : decode cX1_becomeMix 0 = .ok (.aload_n 0, 1) := by decide +kernel
theorem dX1_becomeMix_1 : decode cX1_becomeMix 1 = .ok (.invokevirtual 18, 3) := by decide +kernel
theorem dX1_becomeMix_4 : decode cX1_becomeMix 4 = .ok (.aload_n 0, 1) := by decide +kernel
theorem dX1_becomeMix_5 : decode cX1_becomeMix 5 = .ok (.aload_n 2, 1) := by decide +kernel
theorem dX1_becomeMix_6 : decode cX1_becomeMix 6 = .ok (.getfield 27, 3) := by decide +kernel
theorem dX1_becomeMix_9 : decode cX1_becomeMix 9 = .ok (.putfield 27, 3) := by decide +kernel
theorem dX1_becomeMix_12 : decode cX1_becomeMix 12 = .ok (.aload_n 0, 1) := by decide +kernel
theorem dX1_becomeMix_13 : decode cX1_becomeMix 13 = .ok (.iconst 0, 1) := by decide +kernel
theorem dX1_becomeMix_14 : decode cX1_becomeMix 14 = .ok (.putfield 34, 3) := by decide +kernel
theorem dX1_becomeMix_17 : decode cX1_becomeMix 17 = .ok (.iconst 0, 1) := by decide +kernel
theorem dX1_becomeMix_18 : decode cX1_becomeMix 18 = .ok (.istore 4, 2) := by decide +kernel
theorem dX1_becomeMix_20 : decode cX1_becomeMix 20 = .ok (.iload 4, 2) := by decide +kernel
theorem dX1_becomeMix_22 : decode cX1_becomeMix 22 = .ok (.sipush 1024, 3) := by decide +kernel
theorem dX1_becomeMix_25 : decode cX1_becomeMix 25 = .ok (.if_icmp .ge 52, 3) := by decide +kernel
theorem dX1_becomeMix_28 : decode cX1_becomeMix 28 = .ok (.iload_n 1, 1) := by decide +kernel
theorem dX1_becomeMix_29 : decode cX1_becomeMix 29 = .ok (.aload_n 2, 1) := by decide +kernel
theorem dX1_becomeMix_30 : decode cX1_becomeMix 30 = .ok (.getfield 13, 3) := by decide +kernel
theorem dX1_becomeMix_33 : decode cX1_becomeMix 33 = .ok (.iload 4, 2) := by decide +kernel
theorem dX1_becomeMix_35 : decode cX1_becomeMix 35 = .ok (.laload, 1) := by decide +kernel
theorem dX1_becomeMix_36 : decode cX1_becomeMix 36 = .ok (.aload_n 3, 1) := by decide +kernel
theorem dX1_becomeMix_37 : decode cX1_becomeMix 37 = .ok (.getfield 13, 3) := by decide +kernel
theorem dX1_becomeMix_40 : decode cX1_becomeMix 40 = .ok (.iload 4, 2) := by decide +kernel
theorem dX1_becomeMix_42 : decode cX1_becomeMix 42 = .ok (.laload, 1) := by decide +kernel
theorem dX1_becomeMix_43 : decode cX1_becomeMix 43 = .ok (.invokestatic 67, 3) := by decide +kernel
theorem dX1_becomeMix_46 : decode cX1_becomeMix 46 = .ok (.lstore 5, 2) := by decide +kernel
theorem dX1_becomeMix_48 : decode cX1_becomeMix 48 = .ok (.aload_n 0, 1) := by decide +kernel
theorem dX1_becomeMix_49 : decode cX1_becomeMix 49 = .ok (.getfield 13, 3) := by decide +kernel
theorem dX1_becomeMix_52 : decode cX1_becomeMix 52 = .ok (.iload 4, 2) := by decide +kernel
theorem dX1_becomeMix_54 : decode cX1_becomeMix 54 = .ok (.lload 5, 2) := by decide +kernel
theorem dX1_becomeMix_56 : decode cX1_becomeMix 56 = .ok (.lastore, 1) := by decide +kernel
theorem dX1_becomeMix_57 : decode cX1_becomeMix 57 = .ok (.aload_n 0, 1) := by decide +kernel
theorem dX1_becomeMix_58 : decode cX1_becomeMix 58 = .ok (.dup, 1) := by decide +kernel
theorem dX1_becomeMix_59 : decode cX1_becomeMix 59 = .ok (.getfield 34, 3) := by decide +kernel
theorem dX1_becomeMix_62 : decode cX1_becomeMix 62 = .ok (.lload 5, 2) := by decide +kernel
theorem dX1_becomeMix_64 : decode cX1_becomeMix 64 = .ok (.invokestatic 56, 3) := by decide +kernel
theorem dX1_becomeMix_67 : decode cX1_becomeMix 67 = .ok (.iadd, 1) := by decide +kernel
theorem dX1_becomeMix_68 : decode cX1_becomeMix 68 = .ok (.putfield 34, 3) := by decide +kernel
theorem dX1_becomeMix_71 : decode cX1_becomeMix 71 = .ok (.iinc 4 1, 3) := by decide +kernel
theorem dX1_becomeMix_74 : decode cX1_becomeMix 74 = .ok (.goto (-54), 3) := by decide +kernel
theorem dX1_becomeMix_77 : decode cX1_becomeMix 77 = .ok (.aload_n 0, 1) := by decide +kernel
theorem dX1_becomeMix_78 : decode cX1_becomeMix 78 = .ok (.aload_n 2, 1) := by decide +kernel
theorem dX1_becomeMix_79 : decode cX1_becomeMix 79 = .ok (.invokevirtual 71, 3) := by decide +kernel
theorem dX1_becomeMix_82 : decode cX1_becomeMix 82 = .ok (.ifCond .eq 14, 3) := by decide +kernel
theorem dX1_becomeMix_85 : decode cX1_becomeMix 85 = .ok (.aload_n 0, 1) := by decide +kernel
theorem dX1_becomeMix_86 : decode cX1_becomeMix 86 = .ok (.aload_n 2, 1) := by decide +kernel
theorem dX1_becomeMix_87 : decode cX1_becomeMix 87 = .ok (.getfield 31, 3) := by decide +kernel
theorem dX1_becomeMix_90 : decode cX1_becomeMix 90 = .ok (.putfield 31, 3) := by decide +kernel
theorem dX1_becomeMix_93 : decode cX1_becomeMix 93 = .ok (.goto 26, 3) := by decide +kernel
theorem dX1_becomeMix_96 : decode cX1_becomeMix 96 = .ok (.aload_n 0, 1) := by decide +kernel
theorem dX1_becomeMix_97 : decode cX1_becomeMix 97 = .ok (.aload_n 3, 1) := by decide +kernel
theorem dX1_becomeMix_98 : decode cX1_becomeMix 98 = .ok (.invokevirtual 71, 3) := by decide +kernel
theorem dX1_becomeMix_101 : decode cX1_becomeMix 101 = .ok (.ifCond .eq 14, 3) := by decide +kernel
theorem dX1_becomeMix_104 : decode cX1_becomeMix 104 = .ok (.aload_n 0, 1) := by decide +kernel
theorem dX1_becomeMix_105 : decode cX1_becomeMix 105 = .ok (.aload_n 3, 1) := by decide +kernel
theorem dX1_becomeMix_106 : decode cX1_becomeMix 106 = .ok (.getfield 31, 3) := by decide +kernel
theorem dX1_becomeMix_109 : decode cX1_becomeMix 109 = .ok (.putfield 31, 3) := by decide +kernel
theorem dX1_becomeMix_112 : decode cX1_becomeMix 112 = .ok (.goto 7, 3) := by decide +kernel
theorem dX1_becomeMix_115 : decode cX1_becomeMix 115 = .ok (.aload_n 0, 1) := by decide +kernel
theorem dX1_becomeMix_116 : decode cX1_becomeMix 116 = .ok (.invokevirtual 47, 3) := by decide +kernel
theorem dX1_becomeMix_119 : decode cX1_becomeMix 119 = .ok (.return_, 1) := by decide +kernel
set_option maxRecDepth 20000 in
theorem ggX1_hasLowsOf_X1_hasNoLowBut : GoodIn wsX1_hasLowsOf wsX1_hasNoLowBut := goodIn_r _ [6, 7, 8, 9, 10, 11, 12] rfl (by decide +kernel)
set_option maxRecDepth 20000 in
theorem gX1_hasLowsOf_X1_hasNoLowBut : GoodIn wsX1_hasLowsOf (wsV RX1 75 RX1 yX1_hasNoLowBut wsX1_hasNoLowBut) := goodIn_app (goodIn_of _ (by decide +kernel)) ggX1_hasLowsOf_X1_hasNoLowBut
theorem dX1_hasLowsOf_0 : decode cX1_hasLowsOf 0 = .ok (.aload_n 0, 1) := by decide +kernel
theorem dX1_hasLowsOf_1 : decode cX1_hasLowsOf 1 = .ok (.getfield 34, 3) := by decide +kernel
theorem dX1_hasLowsOf_4 : decode cX1_hasLowsOf 4 = .ok (.aload_n 1, 1) := by decide +kernel
theorem dX1_hasLowsOf_5 : decode cX1_hasLowsOf 5 = .ok (.getfield 34, 3) := by decide +kernel
theorem dX1_hasLowsOf_8 : decode cX1_hasLowsOf 8 = .ok (.if_icmp .ne 15, 3) := by decide +kernel
theorem dX1_hasLowsOf_11 : decode cX1_hasLowsOf 11 = .ok (.aload_n 0, 1) := by decide +kernel
theorem dX1_hasLowsOf_12 : decode cX1_hasLowsOf 12 = .ok (.aload_n 1, 1) := by decide +kernel
theorem dX1_hasLowsOf_13 : decode cX1_hasLowsOf 13 = .ok (.invokevirtual 75, 3) := by decide +kernel
theorem dX1_hasLowsOf_16 : decode cX1_hasLowsOf 16 = .ok (.ifCond .eq 7, 3) := by decide +kernel
theorem dX1_hasLowsOf_19 : decode cX1_hasLowsOf 19 = .ok (.iconst 1, 1) := by decide +kernel
theorem dX1_hasLowsOf_20 : decode cX1_hasLowsOf 20 = .ok (.goto 4, 3) := by decide +kernel
theorem dX1_hasLowsOf_23 : decode cX1_hasLowsOf 23 = .ok (.iconst 0, 1) := by decide +kernel
theorem dX1_hasLowsOf_24 : decode cX1_hasLowsOf 24 = .ok (.ireturn, 1) := by decide +kernel
theorem dX1_hasNoLowBut_0 : decode cX1_hasNoLowBut 0 = .ok (.iconst 0, 1) := by decide +kernel
theorem dX1_hasNoLowBut_1 : decode cX1_hasNoLowBut 1 = .ok (.istore_n 2, 1) := by decide +kernel
theorem dX1_hasNoLowBut_2 : decode cX1_hasNoLowBut 2 = .ok (.iload_n 2, 1) := by decide +kernel
theorem dX1_hasNoLowBut_3 : decode cX1_hasNoLowBut 3 = .ok (.sipush 1024, 3) := by decide +kernel
theorem dX1_hasNoLowBut_6 : decode cX1_hasNoLowBut 6 = .ok (.if_icmp .ge 33, 3) := by decide +kernel
theorem dX1_hasNoLowBut_9 : decode cX1_hasNoLowBut 9 = .ok (.aload_n 0, 1) := by decide +kernel
theorem dX1_hasNoLowBut_10 : decode cX1_hasNoLowBut 10 = .ok (.getfield 13, 3) := by decide +kernel
theorem dX1_hasNoLowBut_13 : decode cX1_hasNoLowBut 13 = .ok (.iload_n 2, 1) := by decide +kernel
theorem dX1_hasNoLowBut_14 : decode cX1_hasNoLowBut 14 = .ok (.laload, 1) := by decide +kernel
theorem dX1_hasNoLowBut_15 : decode cX1_hasNoLowBut 15 = .ok (.aload_n 1, 1) := by decide +kernel
theorem dX1_hasNoLowBut_16 : decode cX1_hasNoLowBut 16 = .ok (.getfield 13, 3) := by decide +kernel
theorem dX1_hasNoLowBut_19 : decode cX1_hasNoLowBut 19 = .ok (.iload_n 2, 1) := by decide +kernel
theorem dX1_hasNoLowBut_20 : decode cX1_hasNoLowBut 20 = .ok (.laload, 1) := by decide +kernel
theorem dX1_hasNoLowBut_21 : decode cX1_hasNoLowBut 21 = .ok (.ldc2_w 50, 3) := by decide +kernel
theorem dX1_hasNoLowBut_24 : decode cX1_hasNoLowBut 24 = .ok (.lxor, 1) := by decide +kernel
theorem dX1_hasNoLowBut_25 : decode cX1_hasNoLowBut 25 = .ok (.land, 1) := by decide +kernel
theorem dX1_hasNoLowBut_26 : decode cX1_hasNoLowBut 26 = .ok (.lconst 0, 1) := by decide +kernel
theorem dX1_hasNoLowBut_27 : decode cX1_hasNoLowBut 27 = .ok (.lcmp, 1) := by decide +kernel
theorem dX1_hasNoLowBut_28 : decode cX1_hasNoLowBut 28 = .ok (.ifCond .eq 5, 3) := by decide +kernel
theorem dX1_hasNoLowBut_31 : decode cX1_hasNoLowBut 31 = .ok (.iconst 0, 1) := by decide +kernel
theorem dX1_hasNoLowBut_32 : decode cX1_hasNoLowBut 32 = .ok (.ireturn, 1) := by decide +kernel
theorem dX1_hasNoLowBut_33 : decode cX1_hasNoLowBut 33 = .ok (.iinc 2 1, 3) := by decide +kernel
theorem dX1_hasNoLowBut_36 : decode cX1_hasNoLowBut 36 = .ok (.goto (-34), 3) := by decide +kernel
theorem dX1_hasNoLowBut_39 : decode cX1_hasNoLowBut 39 = .ok (.iconst 1, 1) := by decide +kernel
theorem dX1_hasNoLowBut_40 : decode cX1_hasNoLowBut 40 = .ok (.ireturn, 1) := by decide +kernel
theorem dX1_hasLowIn_0 : decode cX1_hasLowIn 0 = .ok (.iconst 0, 1) := by decide +kernel
theorem dX1_hasLowIn_1 : decode cX1_hasLowIn 1 = .ok (.istore_n 2, 1) := by decide +kernel
theorem dX1_hasLowIn_2 : decode cX1_hasLowIn 2 = .ok (.iload_n 2, 1) := by decide +kernel
theorem dX1_hasLowIn_3 : decode cX1_hasLowIn 3 = .ok (.sipush 1024, 3) := by decide +kernel
theorem dX1_hasLowIn_6 : decode cX1_hasLowIn 6 = .ok (.if_icmp .ge 29, 3) := by decide +kernel
theorem dX1_hasLowIn_9 : decode cX1_hasLowIn 9 = .ok (.aload_n 0, 1) := by decide +kernel
theorem dX1_hasLowIn_10 : decode cX1_hasLowIn 10 = .ok (.getfield 13, 3) := by decide +kernel
theorem dX1_hasLowIn_13 : decode cX1_hasLowIn 13 = .ok (.iload_n 2, 1) := by decide +kernel
theorem dX1_hasLowIn_14 : decode cX1_hasLowIn 14 = .ok (.laload, 1) := by decide +kernel
theorem dX1_hasLowIn_15 : decode cX1_hasLowIn 15 = .ok (.aload_n 1, 1) := by decide +kernel
theorem dX1_hasLowIn_16 : decode cX1_hasLowIn 16 = .ok (.getfield 13, 3) := by decide +kernel
theorem dX1_hasLowIn_19 : decode cX1_hasLowIn 19 = .ok (.iload_n 2, 1) := by decide +kernel
theorem dX1_hasLowIn_20 : decode cX1_hasLowIn 20 = .ok (.laload, 1) := by decide +kernel
theorem dX1_hasLowIn_21 : decode cX1_hasLowIn 21 = .ok (.land, 1) := by decide +kernel
theorem dX1_hasLowIn_22 : decode cX1_hasLowIn 22 = .ok (.lconst 0, 1) := by decide +kernel
theorem dX1_hasLowIn_23 : decode cX1_hasLowIn 23 = .ok (.lcmp, 1) := by decide +kernel
theorem dX1_hasLowIn_24 : decode cX1_hasLowIn 24 = .ok (.ifCond .eq 5, 3) := by decide +kernel
theorem dX1_hasLowIn_27 : decode cX1_hasLowIn 27 = .ok (.iconst 1, 1) := by decide +kernel
theorem dX1_hasLowIn_28 : decode cX1_hasLowIn 28 = .ok (.ireturn, 1) := by decide +kernel
theorem dX1_hasLowIn_29 : decode cX1_hasLowIn 29 = .ok (.iinc 2 1, 3) := by decide +kernel
theorem dX1_hasLowIn_32 : decode cX1_hasLowIn 32 = .ok (.goto (-30), 3) := by decide +kernel
theorem dX1_hasLowIn_35 : decode cX1_hasLowIn 35 = .ok (.iconst 0, 1) := by decide +kernel
theorem dX1_hasLowIn_36 : decode cX1_hasLowIn 36 = .ok (.ireturn, 1) := by decide +kernel
set_option maxRecDepth 20000 in
theorem ggX1_totalRuns_J13_bitCount_95d88 : GoodIn wsX1_totalRuns wsJ13_bitCount_95d88 := goodIn_r _ [6, 7, 8, 9] rfl (by decide +kernel)
set_option maxRecDepth 20000 in
theorem gX1_totalRuns_J13_bitCount_95d88 : GoodIn wsX1_totalRuns (va_wsS RX1 56 yJ13_bitCount_95d88 wsJ13_bitCount_95d88) := goodIn_app (goodIn_of _ (by decide +kernel)) ggX1_totalRuns_J13_bitCount_95d88
theorem dX1_totalRuns_0 : decode cX1_totalRuns 0 = .ok (.iconst 0, 1) := by decide +kernel
theorem dX1_totalRuns_1 : decode cX1_totalRuns 1 = .ok (.istore_n 1, 1) := by decide +kernel
theorem dX1_totalRuns_2 : decode cX1_totalRuns 2 = .ok (.lconst 0, 1) := by decide +kernel
theorem dX1_totalRuns_3 : decode cX1_totalRuns 3 = .ok (.lstore_n 2, 1) := by decide +kernel
theorem dX1_totalRuns_4 : decode cX1_totalRuns 4 = .ok (.iconst 0, 1) := by decide +kernel
theorem dX1_totalRuns_5 : decode cX1_totalRuns 5 = .ok (.istore 4, 2) := by decide +kernel
theorem dX1_totalRuns_7 : decode cX1_totalRuns 7 = .ok (.iload 4, 2) := by decide +kernel
theorem dX1_totalRuns_9 : decode cX1_totalRuns 9 = .ok (.sipush 1024, 3) := by decide +kernel
theorem dX1_totalRuns_12 : decode cX1_totalRuns 12 = .ok (.if_icmp .ge 43, 3) := by decide +kernel
theorem dX1_totalRuns_15 : decode cX1_totalRuns 15 = .ok (.aload_n 0, 1) := by decide +kernel
theorem dX1_totalRuns_16 : decode cX1_totalRuns 16 = .ok (.getfield 13, 3) := by decide +kernel
theorem dX1_totalRuns_19 : decode cX1_totalRuns 19 = .ok (.iload 4, 2) := by decide +kernel
theorem dX1_totalRuns_21 : decode cX1_totalRuns 21 = .ok (.laload, 1) := by decide +kernel
theorem dX1_totalRuns_22 : decode cX1_totalRuns 22 = .ok (.lstore 5, 2) := by decide +kernel
theorem dX1_totalRuns_24 : decode cX1_totalRuns 24 = .ok (.iload_n 1, 1) := by decide +kernel
theorem dX1_totalRuns_25 : decode cX1_totalRuns 25 = .ok (.lload 5, 2) := by decide +kernel
theorem dX1_totalRuns_27 : decode cX1_totalRuns 27 = .ok (.lload 5, 2) := by decide +kernel
theorem dX1_totalRuns_29 : decode cX1_totalRuns 29 = .ok (.iconst 1, 1) := by decide +kernel
theorem dX1_totalRuns_30 : decode cX1_totalRuns 30 = .ok (.lshl, 1) := by decide +kernel
theorem dX1_totalRuns_31 : decode cX1_totalRuns 31 = .ok (.lload_n 2, 1) := by decide +kernel
theorem dX1_totalRuns_32 : decode cX1_totalRuns 32 = .ok (.lor, 1) := by decide +kernel
theorem dX1_totalRuns_33 : decode cX1_totalRuns 33 = .ok (.ldc2_w 50, 3) := by decide +kernel
theorem dX1_totalRuns_36 : decode cX1_totalRuns 36 = .ok (.lxor, 1) := by decide +kernel
theorem dX1_totalRuns_37 : decode cX1_totalRuns 37 = .ok (.land, 1) := by decide +kernel
theorem dX1_totalRuns_38 : decode cX1_totalRuns 38 = .ok (.invokestatic 56, 3) := by decide +kernel
theorem dX1_totalRuns_41 : decode cX1_totalRuns 41 = .ok (.iadd, 1) := by decide +kernel
theorem dX1_totalRuns_42 : decode cX1_totalRuns 42 = .ok (.istore_n 1, 1) := by decide +kernel
theorem dX1_totalRuns_43 : decode cX1_totalRuns 43 = .ok (.lload 5, 2) := by decide +kernel
theorem dX1_totalRuns_45 : decode cX1_totalRuns 45 = .ok (.bipush 63, 2) := by decide +kernel
theorem dX1_totalRuns_47 : decode cX1_totalRuns 47 = .ok (.lushr, 1) := by decide +kernel
theorem dX1_totalRuns_48 : decode cX1_totalRuns 48 = .ok (.lstore_n 2, 1) := by decide +kernel
theorem dX1_totalRuns_49 : decode cX1_totalRuns 49 = .ok (.iinc 4 1, 3) := by decide +kernel
theorem dX1_totalRuns_52 : decode cX1_totalRuns 52 = .ok (.goto (-45), 3) := by decide +kernel
theorem dX1_totalRuns_55 : decode cX1_totalRuns 55 = .ok (.iload_n 1, 1) := by decide +kernel
theorem dX1_totalRuns_56 : decode cX1_totalRuns 56 = .ok (.ireturn, 1) := by decide +kernel
set_option maxRecDepth 20000 in
theorem ggX1_lowsUpTo_X1_upTo : GoodIn wsX1_lowsUpTo wsX1_upTo := goodIn_r _ [5, 6] rfl (by decide +kernel)
set_option maxRecDepth 20000 in
theorem gX1_lowsUpTo_X1_upTo : GoodIn wsX1_lowsUpTo (va_wsS RX1 52 yX1_upTo wsX1_upTo) := goodIn_app (goodIn_of _ (by decide +kernel)) ggX1_lowsUpTo_X1_upTo
set_option maxRecDepth 20000 in
theorem ggX1_lowsUpTo_J13_bitCount_95d88 : GoodIn wsX1_lowsUpTo wsJ13_bitCount_95d88 := goodIn_r _ [10, 11, 12, 13] rfl (by decide +kernel)
set_option maxRecDepth 20000 in
theorem gX1_lowsUpTo_J13_bitCount_95d88 : GoodIn wsX1_lowsUpTo (va_wsS RX1 56 yJ13_bitCount_95d88 wsJ13_bitCount_95d88) := goodIn_app (goodIn_of _ (by decide +kernel)) ggX1_lowsUpTo_J13_bitCount_95d88
theorem dX1_lowsUpTo_0 : decode cX1_lowsUpTo 0 = .ok (.iload_n 1, 1) := by decide +kernel
theorem dX1_lowsUpTo_1 : decode cX1_lowsUpTo 1 = .ok (.bipush 6, 2) := by decide +kernel
theorem dX1_lowsUpTo_3 : decode cX1_lowsUpTo 3 = .ok (.ishr, 1) := by decide +kernel
theorem dX1_lowsUpTo_4 : decode cX1_lowsUpTo 4 = .ok (.istore_n 2, 1) := by decide +kernel
theorem dX1_lowsUpTo_5 : decode cX1_lowsUpTo 5 = .ok (.aload_n 0, 1) := by decide +kernel
theorem dX1_lowsUpTo_6 : decode cX1_lowsUpTo 6 = .ok (.getfield 13, 3) := by decide +kernel
theorem dX1_lowsUpTo_9 : decode cX1_lowsUpTo 9 = .ok (.iload_n 2, 1) := by decide +kernel
theorem dX1_lowsUpTo_10 : decode cX1_lowsUpTo 10 = .ok (.laload, 1) := by decide +kernel
theorem dX1_lowsUpTo_11 : decode cX1_lowsUpTo 11 = .ok (.iload_n 1, 1) := by decide +kernel
theorem dX1_lowsUpTo_12 : decode cX1_lowsUpTo 12 = .ok (.invokestatic 52, 3) := by decide +kernel
theorem dX1_lowsUpTo_15 : decode cX1_lowsUpTo 15 = .ok (.land, 1) := by decide +kernel
theorem dX1_lowsUpTo_16 : decode cX1_lowsUpTo 16 = .ok (.invokestatic 56, 3) := by decide +kernel
theorem dX1_lowsUpTo_19 : decode cX1_lowsUpTo 19 = .ok (.istore_n 3, 1) := by decide +kernel
theorem dX1_lowsUpTo_20 : decode cX1_lowsUpTo 20 = .ok (.iconst 0, 1) := by decide +kernel
theorem dX1_lowsUpTo_21 : decode cX1_lowsUpTo 21 = .ok (.istore 4, 2) := by decide +kernel
theorem dX1_lowsUpTo_23 : decode cX1_lowsUpTo 23 = .ok (.iload 4, 2) := by decide +kernel
theorem dX1_lowsUpTo_25 : decode cX1_lowsUpTo 25 = .ok (.iload_n 2, 1) := by decide +kernel
theorem dX1_lowsUpTo_26 : decode cX1_lowsUpTo 26 = .ok (.if_icmp .ge 22, 3) := by decide +kernel
theorem dX1_lowsUpTo_29 : decode cX1_lowsUpTo 29 = .ok (.iload_n 3, 1) := by decide +kernel
theorem dX1_lowsUpTo_30 : decode cX1_lowsUpTo 30 = .ok (.aload_n 0, 1) := by decide +kernel
theorem dX1_lowsUpTo_31 : decode cX1_lowsUpTo 31 = .ok (.getfield 13, 3) := by decide +kernel
theorem dX1_lowsUpTo_34 : decode cX1_lowsUpTo 34 = .ok (.iload 4, 2) := by decide +kernel
theorem dX1_lowsUpTo_36 : decode cX1_lowsUpTo 36 = .ok (.laload, 1) := by decide +kernel
theorem dX1_lowsUpTo_37 : decode cX1_lowsUpTo 37 = .ok (.invokestatic 56, 3) := by decide +kernel
theorem dX1_lowsUpTo_40 : decode cX1_lowsUpTo 40 = .ok (.iadd, 1) := by decide +kernel
theorem dX1_lowsUpTo_41 : decode cX1_lowsUpTo 41 = .ok (.istore_n 3, 1) := by decide +kernel
theorem dX1_lowsUpTo_42 : decode cX1_lowsUpTo 42 = .ok (.iinc 4 1, 3) := by decide +kernel
theorem dX1_lowsUpTo_45 : decode cX1_lowsUpTo 45 = .ok (.goto (-22), 3) := by decide +kernel
theorem dX1_lowsUpTo_48 : decode cX1_lowsUpTo 48 = .ok (.iload_n 3, 1) := by decide +kernel
theorem dX1_lowsUpTo_49 : decode cX1_lowsUpTo 49 = .ok (.ireturn, 1) := by decide +kernel
set_option maxRecDepth 20000 in
theorem ggX1_lowAt_J13_bitCount_95d88 : GoodIn wsX1_lowAt wsJ13_bitCount_95d88 := goodIn_r _ [5, 6, 7, 8] rfl (by decide +kernel)
set_option maxRecDepth 20000 in
theorem gX1_lowAt_J13_bitCount_95d88 : GoodIn wsX1_lowAt (va_wsS RX1 56 yJ13_bitCount_95d88 wsJ13_bitCount_95d88) := goodIn_app (goodIn_of _ (by decide +kernel)) ggX1_lowAt_J13_bitCount_95d88
set_option maxRecDepth 20000 in
theorem ggX1_lowAt_J13_numberOfTrailingZeros_95d88 : GoodIn wsX1_lowAt wsJ13_numberOfTrailingZeros_95d88 := goodIn_r _ [11, 12, 13, 14, 15, 16] rfl (by decide +kernel)
set_option maxRecDepth 20000 in
theorem gX1_lowAt_J13_numberOfTrailingZeros_95d88 : GoodIn wsX1_lowAt (va_wsS RX1 78 yJ13_numberOfTrailingZeros_95d88 wsJ13_numberOfTrailingZeros_95d88) := goodIn_app (goodIn_of _ (by decide +kernel)) ggX1_lowAt_J13_numberOfTrailingZeros_95d88
theorem dX1_lowAt_0 : decode cX1_lowAt 0 = .ok (.iload_n 1, 1) := by decide +kernel
theorem dX1_lowAt_1 : decode cX1_lowAt 1 = .ok (.istore_n 2, 1) := by decide +kernel
theorem dX1_lowAt_2 : decode cX1_lowAt 2 = .ok (.iconst 0, 1) := by decide +kernel
theorem dX1_lowAt_3 : decode cX1_lowAt 3 = .ok (.istore_n 3, 1) := by decide +kernel
theorem dX1_lowAt_4 : decode cX1_lowAt 4 = .ok (.iload_n 3, 1) := by decide +kernel
theorem dX1_lowAt_5 : decode cX1_lowAt 5 = .ok (.sipush 1024, 3) := by decide +kernel
theorem dX1_lowAt_8 : decode cX1_lowAt 8 = .ok (.if_icmp .ge 70, 3) := by decide +kernel
theorem dX1_lowAt_11 : decode cX1_lowAt 11 = .ok (.aload_n 0, 1) := by decide +kernel
theorem dX1_lowAt_12 : decode cX1_lowAt 12 = .ok (.getfield 13, 3) := by decide +kernel
theorem dX1_lowAt_15 : decode cX1_lowAt 15 = .ok (.iload_n 3, 1) := by decide +kernel
theorem dX1_lowAt_16 : decode cX1_lowAt 16 = .ok (.laload, 1) := by decide +kernel
theorem dX1_lowAt_17 : decode cX1_lowAt 17 = .ok (.lstore 4, 2) := by decide +kernel
theorem dX1_lowAt_19 : decode cX1_lowAt 19 = .ok (.lload 4, 2) := by decide +kernel
theorem dX1_lowAt_21 : decode cX1_lowAt 21 = .ok (.invokestatic 56, 3) := by decide +kernel
theorem dX1_lowAt_24 : decode cX1_lowAt 24 = .ok (.istore 6, 2) := by decide +kernel
theorem dX1_lowAt_26 : decode cX1_lowAt 26 = .ok (.iload_n 2, 1) := by decide +kernel
theorem dX1_lowAt_27 : decode cX1_lowAt 27 = .ok (.iload 6, 2) := by decide +kernel
theorem dX1_lowAt_29 : decode cX1_lowAt 29 = .ok (.if_icmp .ge 38, 3) := by decide +kernel
theorem dX1_lowAt_32 : decode cX1_lowAt 32 = .ok (.iconst 0, 1) := by decide +kernel
theorem dX1_lowAt_33 : decode cX1_lowAt 33 = .ok (.istore 7, 2) := by decide +kernel
theorem dX1_lowAt_35 : decode cX1_lowAt 35 = .ok (.iload 7, 2) := by decide +kernel
theorem dX1_lowAt_37 : decode cX1_lowAt 37 = .ok (.iload_n 2, 1) := by decide +kernel
theorem dX1_lowAt_38 : decode cX1_lowAt 38 = .ok (.if_icmp .ge 18, 3) := by decide +kernel
theorem dX1_lowAt_41 : decode cX1_lowAt 41 = .ok (.lload 4, 2) := by decide +kernel
theorem dX1_lowAt_43 : decode cX1_lowAt 43 = .ok (.lload 4, 2) := by decide +kernel
theorem dX1_lowAt_45 : decode cX1_lowAt 45 = .ok (.lconst 1, 1) := by decide +kernel
theorem dX1_lowAt_46 : decode cX1_lowAt 46 = .ok (.lsub, 1) := by decide +kernel
theorem dX1_lowAt_47 : decode cX1_lowAt 47 = .ok (.land, 1) := by decide +kernel
theorem dX1_lowAt_48 : decode cX1_lowAt 48 = .ok (.lstore 4, 2) := by decide +kernel
theorem dX1_lowAt_50 : decode cX1_lowAt 50 = .ok (.iinc 7 1, 3) := by decide +kernel
theorem dX1_lowAt_53 : decode cX1_lowAt 53 = .ok (.goto (-18), 3) := by decide +kernel
theorem dX1_lowAt_56 : decode cX1_lowAt 56 = .ok (.iload_n 3, 1) := by decide +kernel
theorem dX1_lowAt_57 : decode cX1_lowAt 57 = .ok (.bipush 6, 2) := by decide +kernel
theorem dX1_lowAt_59 : decode cX1_lowAt 59 = .ok (.ishl, 1) := by decide +kernel
theorem dX1_lowAt_60 : decode cX1_lowAt 60 = .ok (.lload 4, 2) := by decide +kernel
theorem dX1_lowAt_62 : decode cX1_lowAt 62 = .ok (.invokestatic 78, 3) := by decide +kernel
theorem dX1_lowAt_65 : decode cX1_lowAt 65 = .ok (.iadd, 1) := by decide +kernel
theorem dX1_lowAt_66 : decode cX1_lowAt 66 = .ok (.ireturn, 1) := by decide +kernel
theorem dX1_lowAt_67 : decode cX1_lowAt 67 = .ok (.iload_n 2, 1) := by decide +kernel
theorem dX1_lowAt_68 : decode cX1_lowAt 68 = .ok (.iload 6, 2) := by decide +kernel
theorem dX1_lowAt_70 : decode cX1_lowAt 70 = .ok (.isub, 1) := by decide +kernel
theorem dX1_lowAt_71 : decode cX1_lowAt 71 = .ok (.istore_n 2, 1) := by decide +kernel
theorem dX1_lowAt_72 : decode cX1_lowAt 72 = .ok (.iinc 3 1, 3) := by decide +kernel
theorem dX1_lowAt_75 : decode cX1_lowAt 75 = .ok (.goto (-71), 3) := by decide +kernel
theorem dX1_lowAt_78 : decode cX1_lowAt 78 = .ok (.iconst (-1), 1) := by decide +kernel
theorem dX1_lowAt_79 : decode cX1_lowAt 79 = .ok (.ireturn, 1) := by decide +kernel
set_option maxRecDepth 20000 in
theorem ggX1_firstIn_X1_firstBit : GoodIn wsX1_firstIn wsX1_firstBit := goodIn_r _ [5, 6, 7, 8, 9, 10, 11, 12, 13, 14, 15, 16, 17, 18, 19, 20, 21] rfl (by decide +kernel)
set_option maxRecDepth 20000 in
theorem gX1_firstIn_X1_firstBit : GoodIn wsX1_firstIn (wsV RX1 81 RX1 yX1_firstBit wsX1_firstBit) := goodIn_app (goodIn_of _ (by decide +kernel)) ggX1_firstIn_X1_firstBit
theorem dX1_firstIn_0 : decode cX1_firstIn 0 = .ok (.aload_n 0, 1) := by decide +kernel
theorem dX1_firstIn_1 : decode cX1_firstIn 1 = .ok (.iload_n 1, 1) := by decide +kernel
theorem dX1_firstIn_2 : decode cX1_firstIn 2 = .ok (.lconst 0, 1) := by decide +kernel
theorem dX1_firstIn_3 : decode cX1_firstIn 3 = .ok (.invokevirtual 81, 3) := by decide +kernel
theorem dX1_firstIn_6 : decode cX1_firstIn 6 = .ok (.ireturn, 1) := by decide +kernel
set_option maxRecDepth 20000 in
theorem ggX1_firstOut_X1_firstBit : GoodIn wsX1_firstOut wsX1_firstBit := goodIn_r _ [6, 7, 1, 8, 9, 10, 11, 12, 13, 14, 15, 16, 17, 18, 19, 20, 21] rfl (by decide +kernel)
set_option maxRecDepth 20000 in
theorem gX1_firstOut_X1_firstBit : GoodIn wsX1_firstOut (wsV RX1 81 RX1 yX1_firstBit wsX1_firstBit) := goodIn_app (goodIn_of _ (by decide +kernel)) ggX1_firstOut_X1_firstBit
theorem dX1_firstOut_0 : decode cX1_firstOut 0 = .ok (.aload_n 0, 1) := by decide +kernel
theorem dX1_firstOut_1 : decode cX1_firstOut 1 = .ok (.iload_n 1, 1) := by decide +kernel
theorem dX1_firstOut_2 : decode cX1_firstOut 2 = .ok (.ldc2_w 50, 3) := by decide +kernel
theorem dX1_firstOut_5 : decode cX1_firstOut 5 = .ok (.invokevirtual 81, 3) := by decide +kernel
theorem dX1_firstOut_8 : decode cX1_firstOut 8 = .ok (.ireturn, 1) := by decide +kernel
set_option maxRecDepth 20000 in
theorem ggX1_firstBit_J13_numberOfTrailingZeros_95d88 : GoodIn wsX1_firstBit wsJ13_numberOfTrailingZeros_95d88 := goodIn_r _ [7, 8, 9, 10, 11, 12] rfl (by decide +kernel)
set_option maxRecDepth 20000 in
theorem gX1_firstBit_J13_numberOfTrailingZeros_95d88 : GoodIn wsX1_firstBit (va_wsS RX1 78 yJ13_numberOfTrailingZeros_95d88 wsJ13_numberOfTrailingZeros_95d88) := goodIn_app (goodIn_of _ (by decide +kernel)) ggX1_firstBit_J13_numberOfTrailingZeros_95d88
theorem dX1_firstBit_0 : decode cX1_firstBit 0 = .ok (.iload_n 1, 1) := by decide +kernel
theorem dX1_firstBit_1 : decode cX1_firstBit 1 = .ok (.bipush 6, 2) := by decide +kernel
theorem dX1_firstBit_3 : decode cX1_firstBit 3 = .ok (.ishr, 1) := by decide +kernel
theorem dX1_firstBit_4 : decode cX1_firstBit 4 = .ok (.istore 4, 2) := by decide +kernel
theorem dX1_firstBit_6 : decode cX1_firstBit 6 = .ok (.iload 4, 2) := by decide +kernel
theorem dX1_firstBit_8 : decode cX1_firstBit 8 = .ok (.istore 5, 2) := by decide +kernel
theorem dX1_firstBit_10 : decode cX1_firstBit 10 = .ok (.iload 5, 2) := by decide +kernel
theorem dX1_firstBit_12 : decode cX1_firstBit 12 = .ok (.sipush 1024, 3) := by decide +kernel
theorem dX1_firstBit_15 : decode cX1_firstBit 15 = .ok (.if_icmp .ge 56, 3) := by decide +kernel
theorem dX1_firstBit_18 : decode cX1_firstBit 18 = .ok (.aload_n 0, 1) := by decide +kernel
theorem dX1_firstBit_19 : decode cX1_firstBit 19 = .ok (.getfield 13, 3) := by decide +kernel
theorem dX1_firstBit_22 : decode cX1_firstBit 22 = .ok (.iload 5, 2) := by decide +kernel
theorem dX1_firstBit_24 : decode cX1_firstBit 24 = .ok (.laload, 1) := by decide +kernel
theorem dX1_firstBit_25 : decode cX1_firstBit 25 = .ok (.lload_n 2, 1) := by decide +kernel
theorem dX1_firstBit_26 : decode cX1_firstBit 26 = .ok (.lxor, 1) := by decide +kernel
theorem dX1_firstBit_27 : decode cX1_firstBit 27 = .ok (.lstore 6, 2) := by decide +kernel
theorem dX1_firstBit_29 : decode cX1_firstBit 29 = .ok (.iload 5, 2) := by decide +kernel
theorem dX1_firstBit_31 : decode cX1_firstBit 31 = .ok (.iload 4, 2) := by decide +kernel
theorem dX1_firstBit_33 : decode cX1_firstBit 33 = .ok (.if_icmp .ne 13, 3) := by decide +kernel
theorem dX1_firstBit_36 : decode cX1_firstBit 36 = .ok (.lload 6, 2) := by decide +kernel
theorem dX1_firstBit_38 : decode cX1_firstBit 38 = .ok (.ldc2_w 50, 3) := by decide +kernel
theorem dX1_firstBit_41 : decode cX1_firstBit 41 = .ok (.iload_n 1, 1) := by decide +kernel
theorem dX1_firstBit_42 : decode cX1_firstBit 42 = .ok (.lshl, 1) := by decide +kernel
theorem dX1_firstBit_43 : decode cX1_firstBit 43 = .ok (.land, 1) := by decide +kernel
theorem dX1_firstBit_44 : decode cX1_firstBit 44 = .ok (.lstore 6, 2) := by decide +kernel
theorem dX1_firstBit_46 : decode cX1_firstBit 46 = .ok (.lload 6, 2) := by decide +kernel
theorem dX1_firstBit_48 : decode cX1_firstBit 48 = .ok (.lconst 0, 1) := by decide +kernel
theorem dX1_firstBit_49 : decode cX1_firstBit 49 = .ok (.lcmp, 1) := by decide +kernel
theorem dX1_firstBit_50 : decode cX1_firstBit 50 = .ok (.ifCond .eq 15, 3) := by decide +kernel
theorem dX1_firstBit_53 : decode cX1_firstBit 53 = .ok (.iload 5, 2) := by decide +kernel
theorem dX1_firstBit_55 : decode cX1_firstBit 55 = .ok (.bipush 6, 2) := by decide +kernel
theorem dX1_firstBit_57 : decode cX1_firstBit 57 = .ok (.ishl, 1) := by decide +kernel
theorem dX1_firstBit_58 : decode cX1_firstBit 58 = .ok (.lload 6, 2) := by decide +kernel
theorem dX1_firstBit_60 : decode cX1_firstBit 60 = .ok (.invokestatic 78, 3) := by decide +kernel
theorem dX1_firstBit_63 : decode cX1_firstBit 63 = .ok (.iadd, 1) := by decide +kernel
theorem dX1_firstBit_64 : decode cX1_firstBit 64 = .ok (.ireturn, 1) := by decide +kernel
theorem dX1_firstBit_65 : decode cX1_firstBit 65 = .ok (.iinc 5 1, 3) := by decide +kernel
theorem dX1_firstBit_68 : decode cX1_firstBit 68 = .ok (.goto (-58), 3) := by decide +kernel
theorem dX1_firstBit_71 : decode cX1_firstBit 71 = .ok (.ldc 85, 2) := by decide +kernel
theorem dX1_firstBit_73 : decode cX1_firstBit 73 = .ok (.ireturn, 1) := by decide +kernel
set_option maxRecDepth 20000 in
theorem ggX1_digestFrom_X1_totalRuns : GoodIn wsX1_digestFrom wsX1_totalRuns := goodIn_r _ [10, 5, 11, 12, 13, 14, 15, 16, 17, 18, 19, 20, 21, 22] rfl (by decide +kernel)
set_option maxRecDepth 20000 in
theorem gX1_digestFrom_X1_totalRuns : GoodIn wsX1_digestFrom (wsV RX1 43 RX1 yX1_totalRuns wsX1_totalRuns) := goodIn_app (goodIn_of _ (by decide +kernel)) ggX1_digestFrom_X1_totalRuns
theorem dX1_digestFrom_0 : decode cX1_digestFrom 0 = .ok (.ldc2_w 86, 3) := by decide +kernel
theorem dX1_digestFrom_3 : decode cX1_digestFrom 3 = .ok (.lload_n 1, 1) := by decide +kernel
theorem dX1_digestFrom_4 : decode cX1_digestFrom 4 = .ok (.lmul, 1) := by decide +kernel
theorem dX1_digestFrom_5 : decode cX1_digestFrom 5 = .ok (.aload_n 0, 1) := by decide +kernel
theorem dX1_digestFrom_6 : decode cX1_digestFrom 6 = .ok (.getfield 27, 3) := by decide +kernel
theorem dX1_digestFrom_9 : decode cX1_digestFrom 9 = .ok (.i2l, 1) := by decide +kernel
theorem dX1_digestFrom_10 : decode cX1_digestFrom 10 = .ok (.ladd, 1) := by decide +kernel
theorem dX1_digestFrom_11 : decode cX1_digestFrom 11 = .ok (.lstore_n 3, 1) := by decide +kernel
theorem dX1_digestFrom_12 : decode cX1_digestFrom 12 = .ok (.ldc2_w 86, 3) := by decide +kernel
theorem dX1_digestFrom_15 : decode cX1_digestFrom 15 = .ok (.lload_n 3, 1) := by decide +kernel
theorem dX1_digestFrom_16 : decode cX1_digestFrom 16 = .ok (.lmul, 1) := by decide +kernel
theorem dX1_digestFrom_17 : decode cX1_digestFrom 17 = .ok (.aload_n 0, 1) := by decide +kernel
theorem dX1_digestFrom_18 : decode cX1_digestFrom 18 = .ok (.getfield 31, 3) := by decide +kernel
theorem dX1_digestFrom_21 : decode cX1_digestFrom 21 = .ok (.i2l, 1) := by decide +kernel
theorem dX1_digestFrom_22 : decode cX1_digestFrom 22 = .ok (.ladd, 1) := by decide +kernel
theorem dX1_digestFrom_23 : decode cX1_digestFrom 23 = .ok (.lstore_n 3, 1) := by decide +kernel
theorem dX1_digestFrom_24 : decode cX1_digestFrom 24 = .ok (.ldc2_w 86, 3) := by decide +kernel
theorem dX1_digestFrom_27 : decode cX1_digestFrom 27 = .ok (.lload_n 3, 1) := by decide +kernel
theorem dX1_digestFrom_28 : decode cX1_digestFrom 28 = .ok (.lmul, 1) := by decide +kernel
theorem dX1_digestFrom_29 : decode cX1_digestFrom 29 = .ok (.aload_n 0, 1) := by decide +kernel
theorem dX1_digestFrom_30 : decode cX1_digestFrom 30 = .ok (.getfield 34, 3) := by decide +kernel
theorem dX1_digestFrom_33 : decode cX1_digestFrom 33 = .ok (.i2l, 1) := by decide +kernel
theorem dX1_digestFrom_34 : decode cX1_digestFrom 34 = .ok (.ladd, 1) := by decide +kernel
theorem dX1_digestFrom_35 : decode cX1_digestFrom 35 = .ok (.lstore_n 3, 1) := by decide +kernel
theorem dX1_digestFrom_36 : decode cX1_digestFrom 36 = .ok (.ldc2_w 86, 3) := by decide +kernel
theorem dX1_digestFrom_39 : decode cX1_digestFrom 39 = .ok (.lload_n 3, 1) := by decide +kernel
theorem dX1_digestFrom_40 : decode cX1_digestFrom 40 = .ok (.lmul, 1) := by decide +kernel
theorem dX1_digestFrom_41 : decode cX1_digestFrom 41 = .ok (.aload_n 0, 1) := by decide +kernel
theorem dX1_digestFrom_42 : decode cX1_digestFrom 42 = .ok (.invokevirtual 43, 3) := by decide +kernel
theorem dX1_digestFrom_45 : decode cX1_digestFrom 45 = .ok (.i2l, 1) := by decide +kernel
theorem dX1_digestFrom_46 : decode cX1_digestFrom 46 = .ok (.ladd, 1) := by decide +kernel
theorem dX1_digestFrom_47 : decode cX1_digestFrom 47 = .ok (.lstore_n 3, 1) := by decide +kernel
theorem dX1_digestFrom_48 : decode cX1_digestFrom 48 = .ok (.iconst 0, 1) := by decide +kernel
theorem dX1_digestFrom_49 : decode cX1_digestFrom 49 = .ok (.istore 5, 2) := by decide +kernel
theorem dX1_digestFrom_51 : decode cX1_digestFrom 51 = .ok (.iload 5, 2) := by decide +kernel
theorem dX1_digestFrom_53 : decode cX1_digestFrom 53 = .ok (.sipush 1024, 3) := by decide +kernel
theorem dX1_digestFrom_56 : decode cX1_digestFrom 56 = .ok (.if_icmp .ge 23, 3) := by decide +kernel
theorem dX1_digestFrom_59 : decode cX1_digestFrom 59 = .ok (.ldc2_w 86, 3) := by decide +kernel
theorem dX1_digestFrom_62 : decode cX1_digestFrom 62 = .ok (.lload_n 3, 1) := by decide +kernel
theorem dX1_digestFrom_63 : decode cX1_digestFrom 63 = .ok (.lmul, 1) := by decide +kernel
theorem dX1_digestFrom_64 : decode cX1_digestFrom 64 = .ok (.aload_n 0, 1) := by decide +kernel
theorem dX1_digestFrom_65 : decode cX1_digestFrom 65 = .ok (.getfield 13, 3) := by decide +kernel
theorem dX1_digestFrom_68 : decode cX1_digestFrom 68 = .ok (.iload 5, 2) := by decide +kernel
theorem dX1_digestFrom_70 : decode cX1_digestFrom 70 = .ok (.laload, 1) := by decide +kernel
theorem dX1_digestFrom_71 : decode cX1_digestFrom 71 = .ok (.ladd, 1) := by decide +kernel
theorem dX1_digestFrom_72 : decode cX1_digestFrom 72 = .ok (.lstore_n 3, 1) := by decide +kernel
theorem dX1_digestFrom_73 : decode cX1_digestFrom 73 = .ok (.iinc 5 1, 3) := by decide +kernel
theorem dX1_digestFrom_76 : decode cX1_digestFrom 76 = .ok (.goto (-25), 3) := by decide +kernel
theorem dX1_digestFrom_79 : decode cX1_digestFrom 79 = .ok (.lload_n 3, 1) := by decide +kernel
theorem dX1_digestFrom_80 : decode cX1_digestFrom 80 = .ok (.lreturn, 1) := by decide +kernel
theorem dX1_mix_0 : decode cX1_mix 0 = .ok (.iload_n 0, 1) := by decide +kernel
theorem dX1_mix_1 : decode cX1_mix 1 = .ok (.tableswitch 39 0 2 #[27, 31, 35], 27) := by decide +kernel
theorem dX1_mix_28 : decode cX1_mix 28 = .ok (.lload_n 1, 1) := by decide +kernel
theorem dX1_mix_29 : decode cX1_mix 29 = .ok (.lload_n 3, 1) := by decide +kernel
theorem dX1_mix_30 : decode cX1_mix 30 = .ok (.land, 1) := by decide +kernel
theorem dX1_mix_31 : decode cX1_mix 31 = .ok (.lreturn, 1) := by decide +kernel
theorem dX1_mix_32 : decode cX1_mix 32 = .ok (.lload_n 1, 1) := by decide +kernel
theorem dX1_mix_33 : decode cX1_mix 33 = .ok (.lload_n 3, 1) := by decide +kernel
theorem dX1_mix_34 : decode cX1_mix 34 = .ok (.lor, 1) := by decide +kernel
theorem dX1_mix_35 : decode cX1_mix 35 = .ok (.lreturn, 1) := by decide +kernel
theorem dX1_mix_36 : decode cX1_mix 36 = .ok (.lload_n 1, 1) := by decide +kernel
theorem dX1_mix_37 : decode cX1_mix 37 = .ok (.lload_n 3, 1) := by decide +kernel
theorem dX1_mix_38 : decode cX1_mix 38 = .ok (.lxor, 1) := by decide +kernel
theorem dX1_mix_39 : decode cX1_mix 39 = .ok (.lreturn, 1) := by decide +kernel
theorem dX1_mix_40 : decode cX1_mix 40 = .ok (.lload_n 1, 1) := by decide +kernel
theorem dX1_mix_41 : decode cX1_mix 41 = .ok (.lload_n 3, 1) := by decide +kernel
theorem dX1_mix_42 : decode cX1_mix 42 = .ok (.ldc2_w 50, 3) := by decide +kernel
theorem dX1_mix_45 : decode cX1_mix 45 = .ok (.lxor, 1) := by decide +kernel
theorem dX1_mix_46 : decode cX1_mix 46 = .ok (.land, 1) := by decide +kernel
theorem dX1_mix_47 : decode cX1_mix 47 = .ok (.lreturn, 1) := by decide +kernel
theorem dX1_upTo_0 : decode cX1_upTo 0 = .ok (.ldc2_w 50, 3) := by decide +kernel
theorem dX1_upTo_3 : decode cX1_upTo 3 = .ok (.bipush 63, 2) := by decide +kernel
theorem dX1_upTo_5 : decode cX1_upTo 5 = .ok (.iload_n 0, 1) := by decide +kernel
theorem dX1_upTo_6 : decode cX1_upTo 6 = .ok (.bipush 63, 2) := by decide +kernel
theorem dX1_upTo_8 : decode cX1_upTo 8 = .ok (.iand, 1) := by decide +kernel
theorem dX1_upTo_9 : decode cX1_upTo 9 = .ok (.isub, 1) := by decide +kernel
theorem dX1_upTo_10 : decode cX1_upTo 10 = .ok (.lushr, 1) := by decide +kernel
theorem dX1_upTo_11 : decode cX1_upTo 11 = .ok (.lreturn, 1) := by decide +kernel
set_option maxRecDepth 20000 in
theorem ggX2_init_X1_init : GoodIn wsX2_init wsX1_init := goodIn_r _ [9, 10, 2, 3, 11, 14, 15, 16, 17] rfl (by decide +kernel)
set_option maxRecDepth 20000 in
theorem gX2_init_X1_init_n17 : GoodIn wsX2_init (wsX1_init) := ggX2_init_X1_init
