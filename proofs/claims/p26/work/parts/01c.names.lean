theorem dX2_init_0 : decode cX2_init 0 = .ok (.aload_n 0, 1) := by decide +kernel
theorem dX2_init_1 : decode cX2_init 1 = .ok (.invokespecial 3, 3) := by decide +kernel
theorem dX2_init_4 : decode cX2_init 4 = .ok (.aload_n 0, 1) := by decide +kernel
theorem dX2_init_5 : decode cX2_init 5 = .ok (.bipush 7, 2) := by decide +kernel
theorem dX2_init_7 : decode cX2_init 7 = .ok (.anewarray 9, 3) := by decide +kernel
theorem dX2_init_10 : decode cX2_init 10 = .ok (.putfield 11, 3) := by decide +kernel
theorem dX2_init_13 : decode cX2_init 13 = .ok (.iconst 0, 1) := by decide +kernel
theorem dX2_init_14 : decode cX2_init 14 = .ok (.istore_n 1, 1) := by decide +kernel
theorem dX2_init_15 : decode cX2_init 15 = .ok (.iload_n 1, 1) := by decide +kernel
theorem dX2_init_16 : decode cX2_init 16 = .ok (.aload_n 0, 1) := by decide +kernel
theorem dX2_init_17 : decode cX2_init 17 = .ok (.getfield 11, 3) := by decide +kernel
theorem dX2_init_20 : decode cX2_init 20 = .ok (.arraylength, 1) := by decide +kernel
theorem dX2_init_21 : decode cX2_init 21 = .ok (.if_icmp .ge 22, 3) := by decide +kernel
theorem dX2_init_24 : decode cX2_init 24 = .ok (.aload_n 0, 1) := by decide +kernel
theorem dX2_init_25 : decode cX2_init 25 = .ok (.getfield 11, 3) := by decide +kernel
theorem dX2_init_28 : decode cX2_init 28 = .ok (.iload_n 1, 1) := by decide +kernel
theorem dX2_init_29 : decode cX2_init 29 = .ok (.new 9, 3) := by decide +kernel
theorem dX2_init_32 : decode cX2_init 32 = .ok (.dup, 1) := by decide +kernel
theorem dX2_init_33 : decode cX2_init 33 = .ok (.invokespecial 17, 3) := by decide +kernel
theorem dX2_init_36 : decode cX2_init 36 = .ok (.aastore, 1) := by decide +kernel
theorem dX2_init_37 : decode cX2_init 37 = .ok (.iinc 1 1, 3) := by decide +kernel
theorem dX2_init_40 : decode cX2_init 40 = .ok (.goto (-25), 3) := by decide +kernel
theorem dX2_init_43 : decode cX2_init 43 = .ok (.return_, 1) := by decide +kernel
theorem dX2_exchange_0 : decode cX2_exchange 0 = .ok (.aload_n 1, 1) := by decide +kernel
theorem dX2_exchange_1 : decode cX2_exchange 1 = .ok (.getfield 11, 3) := by decide +kernel
theorem dX2_exchange_4 : decode cX2_exchange 4 = .ok (.astore_n 2, 1) := by decide +kernel
theorem dX2_exchange_5 : decode cX2_exchange 5 = .ok (.aload_n 1, 1) := by decide +kernel
theorem dX2_exchange_6 : decode cX2_exchange 6 = .ok (.getfield 18, 3) := by decide +kernel
theorem dX2_exchange_9 : decode cX2_exchange 9 = .ok (.istore_n 3, 1) := by decide +kernel
theorem dX2_exchange_10 : decode cX2_exchange 10 = .ok (.aload_n 1, 1) := by decide +kernel
theorem dX2_exchange_11 : decode cX2_exchange 11 = .ok (.aload_n 0, 1) := by decide +kernel
theorem dX2_exchange_12 : decode cX2_exchange 12 = .ok (.getfield 11, 3) := by decide +kernel
theorem dX2_exchange_15 : decode cX2_exchange 15 = .ok (.putfield 11, 3) := by decide +kernel
theorem dX2_exchange_18 : decode cX2_exchange 18 = .ok (.aload_n 1, 1) := by decide +kernel
theorem dX2_exchange_19 : decode cX2_exchange 19 = .ok (.aload_n 0, 1) := by decide +kernel
theorem dX2_exchange_20 : decode cX2_exchange 20 = .ok (.getfield 18, 3) := by decide +kernel
theorem dX2_exchange_23 : decode cX2_exchange 23 = .ok (.putfield 18, 3) := by decide +kernel
theorem dX2_exchange_26 : decode cX2_exchange 26 = .ok (.aload_n 0, 1) := by decide +kernel
theorem dX2_exchange_27 : decode cX2_exchange 27 = .ok (.aload_n 2, 1) := by decide +kernel
theorem dX2_exchange_28 : decode cX2_exchange 28 = .ok (.putfield 11, 3) := by decide +kernel
theorem dX2_exchange_31 : decode cX2_exchange 31 = .ok (.aload_n 0, 1) := by decide +kernel
theorem dX2_exchange_32 : decode cX2_exchange 32 = .ok (.iload_n 3, 1) := by decide +kernel
theorem dX2_exchange_33 : decode cX2_exchange 33 = .ok (.putfield 18, 3) := by decide +kernel
theorem dX2_exchange_36 : decode cX2_exchange 36 = .ok (.return_, 1) := by decide +kernel
set_option maxRecDepth 20000 in
theorem ggX2_copyFrom_X1_copyLowsOf : GoodIn wsX2_copyFrom wsX1_copyLowsOf := goodIn_r _ [7, 8, 9, 10, 11, 12, 13, 14, 15, 16, 17, 18, 6, 19, 20, 23, 24, 25, 26] rfl (by decide +kernel)
set_option maxRecDepth 20000 in
theorem gX2_copyFrom_X1_copyLowsOf : GoodIn wsX2_copyFrom (wsV RX2 22 RX1 yX1_copyLowsOf wsX1_copyLowsOf) := goodIn_app (goodIn_of _ (by decide +kernel)) ggX2_copyFrom_X1_copyLowsOf
theorem dX2_copyFrom_0 : decode cX2_copyFrom 0 = .ok (.aload_n 0, 1) := by decide +kernel
theorem dX2_copyFrom_1 : decode cX2_copyFrom 1 = .ok (.aload_n 1, 1) := by decide +kernel
theorem dX2_copyFrom_2 : decode cX2_copyFrom 2 = .ok (.getfield 18, 3) := by decide +kernel
theorem dX2_copyFrom_5 : decode cX2_copyFrom 5 = .ok (.putfield 18, 3) := by decide +kernel
theorem dX2_copyFrom_8 : decode cX2_copyFrom 8 = .ok (.iconst 0, 1) := by decide +kernel
theorem dX2_copyFrom_9 : decode cX2_copyFrom 9 = .ok (.istore_n 2, 1) := by decide +kernel
theorem dX2_copyFrom_10 : decode cX2_copyFrom 10 = .ok (.iload_n 2, 1) := by decide +kernel
theorem dX2_copyFrom_11 : decode cX2_copyFrom 11 = .ok (.aload_n 0, 1) := by decide +kernel
theorem dX2_copyFrom_12 : decode cX2_copyFrom 12 = .ok (.getfield 18, 3) := by decide +kernel
theorem dX2_copyFrom_15 : decode cX2_copyFrom 15 = .ok (.if_icmp .ge 24, 3) := by decide +kernel
theorem dX2_copyFrom_18 : decode cX2_copyFrom 18 = .ok (.aload_n 0, 1) := by decide +kernel
theorem dX2_copyFrom_19 : decode cX2_copyFrom 19 = .ok (.getfield 11, 3) := by decide +kernel
theorem dX2_copyFrom_22 : decode cX2_copyFrom 22 = .ok (.iload_n 2, 1) := by decide +kernel
theorem dX2_copyFrom_23 : decode cX2_copyFrom 23 = .ok (.aaload, 1) := by decide +kernel
theorem dX2_copyFrom_24 : decode cX2_copyFrom 24 = .ok (.aload_n 1, 1) := by decide +kernel
theorem dX2_copyFrom_25 : decode cX2_copyFrom 25 = .ok (.getfield 11, 3) := by decide +kernel
theorem dX2_copyFrom_28 : decode cX2_copyFrom 28 = .ok (.iload_n 2, 1) := by decide +kernel
theorem dX2_copyFrom_29 : decode cX2_copyFrom 29 = .ok (.aaload, 1) := by decide +kernel
theorem dX2_copyFrom_30 : decode cX2_copyFrom 30 = .ok (.invokevirtual 22, 3) := by decide +kernel
theorem dX2_copyFrom_33 : decode cX2_copyFrom 33 = .ok (.iinc 2 1, 3) := by decide +kernel
theorem dX2_copyFrom_36 : decode cX2_copyFrom 36 = .ok (.goto (-26), 3) := by decide +kernel
theorem dX2_copyFrom_39 : decode cX2_copyFrom 39 = .ok (.return_, 1) := by decide +kernel
theorem dX2_keyAt_0 : decode cX2_keyAt 0 = .ok (.iload_n 1, 1) := by decide +kernel
theorem dX2_keyAt_1 : decode cX2_keyAt 1 = .ok (.aload_n 0, 1) := by decide +kernel
theorem dX2_keyAt_2 : decode cX2_keyAt 2 = .ok (.getfield 18, 3) := by decide +kernel
theorem dX2_keyAt_5 : decode cX2_keyAt 5 = .ok (.if_icmp .ge 15, 3) := by decide +kernel
theorem dX2_keyAt_8 : decode cX2_keyAt 8 = .ok (.aload_n 0, 1) := by decide +kernel
theorem dX2_keyAt_9 : decode cX2_keyAt 9 = .ok (.getfield 11, 3) := by decide +kernel
theorem dX2_keyAt_12 : decode cX2_keyAt 12 = .ok (.iload_n 1, 1) := by decide +kernel
theorem dX2_keyAt_13 : decode cX2_keyAt 13 = .ok (.aaload, 1) := by decide +kernel
theorem dX2_keyAt_14 : decode cX2_keyAt 14 = .ok (.getfield 26, 3) := by decide +kernel
theorem dX2_keyAt_17 : decode cX2_keyAt 17 = .ok (.goto 5, 3) := by decide +kernel
theorem dX2_keyAt_20 : decode cX2_keyAt 20 = .ok (.ldc 29, 2) := by decide +kernel
theorem dX2_keyAt_22 : decode cX2_keyAt 22 = .ok (.ireturn, 1) := by decide +kernel
theorem dX2_indexOf_0 : decode cX2_indexOf 0 = .ok (.iconst 0, 1) := by decide +kernel
theorem dX2_indexOf_1 : decode cX2_indexOf 1 = .ok (.istore_n 2, 1) := by decide +kernel
theorem dX2_indexOf_2 : decode cX2_indexOf 2 = .ok (.iload_n 2, 1) := by decide +kernel
theorem dX2_indexOf_3 : decode cX2_indexOf 3 = .ok (.aload_n 0, 1) := by decide +kernel
theorem dX2_indexOf_4 : decode cX2_indexOf 4 = .ok (.getfield 18, 3) := by decide +kernel
theorem dX2_indexOf_7 : decode cX2_indexOf 7 = .ok (.if_icmp .ge 22, 3) := by decide +kernel
theorem dX2_indexOf_10 : decode cX2_indexOf 10 = .ok (.aload_n 0, 1) := by decide +kernel
theorem dX2_indexOf_11 : decode cX2_indexOf 11 = .ok (.getfield 11, 3) := by decide +kernel
theorem dX2_indexOf_14 : decode cX2_indexOf 14 = .ok (.iload_n 2, 1) := by decide +kernel
theorem dX2_indexOf_15 : decode cX2_indexOf 15 = .ok (.aaload, 1) := by decide +kernel
theorem dX2_indexOf_16 : decode cX2_indexOf 16 = .ok (.getfield 26, 3) := by decide +kernel
theorem dX2_indexOf_19 : decode cX2_indexOf 19 = .ok (.iload_n 1, 1) := by decide +kernel
theorem dX2_indexOf_20 : decode cX2_indexOf 20 = .ok (.if_icmp .ge 9, 3) := by decide +kernel
theorem dX2_indexOf_23 : decode cX2_indexOf 23 = .ok (.iinc 2 1, 3) := by decide +kernel
theorem dX2_indexOf_26 : decode cX2_indexOf 26 = .ok (.goto (-24), 3) := by decide +kernel
theorem dX2_indexOf_29 : decode cX2_indexOf 29 = .ok (.iload_n 2, 1) := by decide +kernel
theorem dX2_indexOf_30 : decode cX2_indexOf 30 = .ok (.ireturn, 1) := by decide +kernel
set_option maxRecDepth 20000 in
theorem ggX2_find_X2_indexOf : GoodIn wsX2_find wsX2_indexOf := goodIn_r _ [6, 7, 1, 8, 14, 15, 16, 17, 18, 19] rfl (by decide +kernel)
set_option maxRecDepth 20000 in
theorem gX2_find_X2_indexOf : GoodIn wsX2_find (wsV RX2 30 RX2 yX2_indexOf wsX2_indexOf) := goodIn_app (goodIn_of _ (by decide +kernel)) ggX2_find_X2_indexOf
set_option maxRecDepth 20000 in
theorem ggX2_find_X2_keyAt : GoodIn wsX2_find wsX2_keyAt := goodIn_r _ [12, 7, 1, 8, 13, 14, 15, 16, 17, 18, 19] rfl (by decide +kernel)
set_option maxRecDepth 20000 in
theorem gX2_find_X2_keyAt : GoodIn wsX2_find (wsV RX2 34 RX2 yX2_keyAt wsX2_keyAt) := goodIn_app (goodIn_of _ (by decide +kernel)) ggX2_find_X2_keyAt
theorem dX2_find_0 : decode cX2_find 0 = .ok (.aload_n 0, 1) := by decide +kernel
theorem dX2_find_1 : decode cX2_find 1 = .ok (.iload_n 1, 1) := by decide +kernel
theorem dX2_find_2 : decode cX2_find 2 = .ok (.invokevirtual 30, 3) := by decide +kernel
theorem dX2_find_5 : decode cX2_find 5 = .ok (.istore_n 2, 1) := by decide +kernel
theorem dX2_find_6 : decode cX2_find 6 = .ok (.aload_n 0, 1) := by decide +kernel
theorem dX2_find_7 : decode cX2_find 7 = .ok (.iload_n 2, 1) := by decide +kernel
theorem dX2_find_8 : decode cX2_find 8 = .ok (.invokevirtual 34, 3) := by decide +kernel
theorem dX2_find_11 : decode cX2_find 11 = .ok (.iload_n 1, 1) := by decide +kernel
theorem dX2_find_12 : decode cX2_find 12 = .ok (.if_icmp .ne 12, 3) := by decide +kernel
theorem dX2_find_15 : decode cX2_find 15 = .ok (.aload_n 0, 1) := by decide +kernel
theorem dX2_find_16 : decode cX2_find 16 = .ok (.getfield 11, 3) := by decide +kernel
theorem dX2_find_19 : decode cX2_find 19 = .ok (.iload_n 2, 1) := by decide +kernel
theorem dX2_find_20 : decode cX2_find 20 = .ok (.aaload, 1) := by decide +kernel
theorem dX2_find_21 : decode cX2_find 21 = .ok (.goto 4, 3) := by decide +kernel
theorem dX2_find_24 : decode cX2_find 24 = .ok (.aconst_null, 1) := by decide +kernel
theorem dX2_find_25 : decode cX2_find 25 = .ok (.areturn, 1) := by decide +kernel
set_option maxRecDepth 20000 in
theorem ggX2_findOrMake_X2_indexOf : GoodIn wsX2_findOrMake wsX2_indexOf := goodIn_r _ [7, 2, 1, 8, 32, 33, 34, 35, 36, 37] rfl (by decide +kernel)
set_option maxRecDepth 20000 in
theorem gX2_findOrMake_X2_indexOf : GoodIn wsX2_findOrMake (wsV RX2 30 RX2 yX2_indexOf wsX2_indexOf) := goodIn_app (goodIn_of _ (by decide +kernel)) ggX2_findOrMake_X2_indexOf
set_option maxRecDepth 20000 in
theorem ggX2_findOrMake_X2_keyAt : GoodIn wsX2_findOrMake wsX2_keyAt := goodIn_r _ [12, 2, 1, 8, 13, 32, 33, 34, 35, 36, 37] rfl (by decide +kernel)
set_option maxRecDepth 20000 in
theorem gX2_findOrMake_X2_keyAt : GoodIn wsX2_findOrMake (wsV RX2 34 RX2 yX2_keyAt wsX2_keyAt) := goodIn_app (goodIn_of _ (by decide +kernel)) ggX2_findOrMake_X2_keyAt
set_option maxRecDepth 20000 in
theorem ggX2_findOrMake_X1_begin : GoodIn wsX2_findOrMake wsX1_begin := goodIn_r _ [18, 19, 20, 21, 22, 23, 24, 25, 17, 26, 27, 28, 29, 30, 31, 34, 35, 36, 37] rfl (by decide +kernel)
set_option maxRecDepth 20000 in
theorem gX2_findOrMake_X1_begin : GoodIn wsX2_findOrMake (wsV RX2 37 RX1 yX1_begin wsX1_begin) := goodIn_app (goodIn_of _ (by decide +kernel)) ggX2_findOrMake_X1_begin
theorem dX2_findOrMake_0 : decode cX2_findOrMake 0 = .ok (.aload_n 0, 1) := by decide +kernel
theorem dX2_findOrMake_1 : decode cX2_findOrMake 1 = .ok (.iload_n 1, 1) := by decide +kernel
theorem dX2_findOrMake_2 : decode cX2_findOrMake 2 = .ok (.invokevirtual 30, 3) := by decide +kernel
theorem dX2_findOrMake_5 : decode cX2_findOrMake 5 = .ok (.istore_n 2, 1) := by decide +kernel
theorem dX2_findOrMake_6 : decode cX2_findOrMake 6 = .ok (.aload_n 0, 1) := by decide +kernel
theorem dX2_findOrMake_7 : decode cX2_findOrMake 7 = .ok (.iload_n 2, 1) := by decide +kernel
theorem dX2_findOrMake_8 : decode cX2_findOrMake 8 = .ok (.invokevirtual 34, 3) := by decide +kernel
theorem dX2_findOrMake_11 : decode cX2_findOrMake 11 = .ok (.iload_n 1, 1) := by decide +kernel
theorem dX2_findOrMake_12 : decode cX2_findOrMake 12 = .ok (.if_icmp .ne 10, 3) := by decide +kernel
theorem dX2_findOrMake_15 : decode cX2_findOrMake 15 = .ok (.aload_n 0, 1) := by decide +kernel
theorem dX2_findOrMake_16 : decode cX2_findOrMake 16 = .ok (.getfield 11, 3) := by decide +kernel
theorem dX2_findOrMake_19 : decode cX2_findOrMake 19 = .ok (.iload_n 2, 1) := by decide +kernel
theorem dX2_findOrMake_20 : decode cX2_findOrMake 20 = .ok (.aaload, 1) := by decide +kernel
theorem dX2_findOrMake_21 : decode cX2_findOrMake 21 = .ok (.areturn, 1) := by decide +kernel
theorem dX2_findOrMake_22 : decode cX2_findOrMake 22 = .ok (.aload_n 0, 1) := by decide +kernel
theorem dX2_findOrMake_23 : decode cX2_findOrMake 23 = .ok (.getfield 18, 3) := by decide +kernel
theorem dX2_findOrMake_26 : decode cX2_findOrMake 26 = .ok (.bipush 6, 2) := by decide +kernel
theorem dX2_findOrMake_28 : decode cX2_findOrMake 28 = .ok (.if_icmp .lt 5, 3) := by decide +kernel
theorem dX2_findOrMake_31 : decode cX2_findOrMake 31 = .ok (.aconst_null, 1) := by decide +kernel
theorem dX2_findOrMake_32 : decode cX2_findOrMake 32 = .ok (.areturn, 1) := by decide +kernel
theorem dX2_findOrMake_33 : decode cX2_findOrMake 33 = .ok (.aload_n 0, 1) := by decide +kernel
theorem dX2_findOrMake_34 : decode cX2_findOrMake 34 = .ok (.getfield 11, 3) := by decide +kernel
theorem dX2_findOrMake_37 : decode cX2_findOrMake 37 = .ok (.aload_n 0, 1) := by decide +kernel
theorem dX2_findOrMake_38 : decode cX2_findOrMake 38 = .ok (.getfield 18, 3) := by decide +kernel
theorem dX2_findOrMake_41 : decode cX2_findOrMake 41 = .ok (.aaload, 1) := by decide +kernel
theorem dX2_findOrMake_42 : decode cX2_findOrMake 42 = .ok (.astore_n 3, 1) := by decide +kernel
theorem dX2_findOrMake_43 : decode cX2_findOrMake 43 = .ok (.aload_n 0, 1) := by decide +kernel
theorem dX2_findOrMake_44 : decode cX2_findOrMake 44 = .ok (.getfield 18, 3) := by decide +kernel
theorem dX2_findOrMake_47 : decode cX2_findOrMake 47 = .ok (.istore 4, 2) := by decide +kernel
theorem dX2_findOrMake_49 : decode cX2_findOrMake 49 = .ok (.iload 4, 2) := by decide +kernel
theorem dX2_findOrMake_51 : decode cX2_findOrMake 51 = .ok (.iload_n 2, 1) := by decide +kernel
theorem dX2_findOrMake_52 : decode cX2_findOrMake 52 = .ok (.if_icmp .le 25, 3) := by decide +kernel
theorem dX2_findOrMake_55 : decode cX2_findOrMake 55 = .ok (.aload_n 0, 1) := by decide +kernel
theorem dX2_findOrMake_56 : decode cX2_findOrMake 56 = .ok (.getfield 11, 3) := by decide +kernel
theorem dX2_findOrMake_59 : decode cX2_findOrMake 59 = .ok (.iload 4, 2) := by decide +kernel
theorem dX2_findOrMake_61 : decode cX2_findOrMake 61 = .ok (.aload_n 0, 1) := by decide +kernel
theorem dX2_findOrMake_62 : decode cX2_findOrMake 62 = .ok (.getfield 11, 3) := by decide +kernel
theorem dX2_findOrMake_65 : decode cX2_findOrMake 65 = .ok (.iload 4, 2) := by decide +kernel
theorem dX2_findOrMake_67 : decode cX2_findOrMake 67 = .ok (.iconst 1, 1) := by decide +kernel
theorem dX2_findOrMake_68 : decode cX2_findOrMake 68 = .ok (.isub, 1) := by decide +kernel
theorem dX2_findOrMake_69 : decode cX2_findOrMake 69 = .ok (.aaload, 1) := by decide +kernel
theorem dX2_findOrMake_70 : decode cX2_findOrMake 70 = .ok (.aastore, 1) := by decide +kernel
theorem dX2_findOrMake_71 : decode cX2_findOrMake 71 = .ok (.iinc 4 (-1), 3) := by decide +kernel
theorem dX2_findOrMake_74 : decode cX2_findOrMake 74 = .ok (.goto (-25), 3) := by decide +kernel
theorem dX2_findOrMake_77 : decode cX2_findOrMake 77 = .ok (.aload_n 0, 1) := by decide +kernel
theorem dX2_findOrMake_78 : decode cX2_findOrMake 78 = .ok (.getfield 11, 3) := by decide +kernel
theorem dX2_findOrMake_81 : decode cX2_findOrMake 81 = .ok (.iload_n 2, 1) := by decide +kernel
theorem dX2_findOrMake_82 : decode cX2_findOrMake 82 = .ok (.aload_n 3, 1) := by decide +kernel
theorem dX2_findOrMake_83 : decode cX2_findOrMake 83 = .ok (.aastore, 1) := by decide +kernel
theorem dX2_findOrMake_84 : decode cX2_findOrMake 84 = .ok (.aload_n 0, 1) := by decide +kernel
theorem dX2_findOrMake_85 : decode cX2_findOrMake 85 = .ok (.dup, 1) := by decide +kernel
theorem dX2_findOrMake_86 : decode cX2_findOrMake 86 = .ok (.getfield 18, 3) := by decide +kernel
theorem dX2_findOrMake_89 : decode cX2_findOrMake 89 = .ok (.iconst 1, 1) := by decide +kernel
theorem dX2_findOrMake_90 : decode cX2_findOrMake 90 = .ok (.iadd, 1) := by decide +kernel
theorem dX2_findOrMake_91 : decode cX2_findOrMake 91 = .ok (.putfield 18, 3) := by decide +kernel
theorem dX2_findOrMake_94 : decode cX2_findOrMake 94 = .ok (.aload_n 3, 1) := by decide +kernel
theorem dX2_findOrMake_95 : decode cX2_findOrMake 95 = .ok (.iload_n 1, 1) := by decide +kernel
theorem dX2_findOrMake_96 : decode cX2_findOrMake 96 = .ok (.invokevirtual 37, 3) := by decide +kernel
theorem dX2_findOrMake_99 : decode cX2_findOrMake 99 = .ok (.aload_n 3, 1) := by decide +kernel
theorem dX2_findOrMake_100 : decode cX2_findOrMake 100 = .ok (.areturn, 1) := by decide +kernel
set_option maxRecDepth 20000 in
theorem ggX2_leaveOut_X2_indexOf : GoodIn wsX2_leaveOut wsX2_indexOf := goodIn_r _ [7, 2, 1, 8, 14, 15, 16, 17, 18, 19] rfl (by decide +kernel)
set_option maxRecDepth 20000 in
theorem gX2_leaveOut_X2_indexOf : GoodIn wsX2_leaveOut (wsV RX2 30 RX2 yX2_indexOf wsX2_indexOf) := goodIn_app (goodIn_of _ (by decide +kernel)) ggX2_leaveOut_X2_indexOf
set_option maxRecDepth 20000 in
theorem ggX2_leaveOut_X2_keyAt : GoodIn wsX2_leaveOut wsX2_keyAt := goodIn_r _ [12, 2, 1, 8, 13, 14, 15, 16, 17, 18, 19] rfl (by decide +kernel)
set_option maxRecDepth 20000 in
theorem gX2_leaveOut_X2_keyAt : GoodIn wsX2_leaveOut (wsV RX2 34 RX2 yX2_keyAt wsX2_keyAt) := goodIn_app (goodIn_of _ (by decide +kernel)) ggX2_leaveOut_X2_keyAt
theorem dX2_leaveOut_0 : decode cX2_leaveOut 0 = .ok (.aload_n 0, 1) := by decide +kernel
theorem dX2_leaveOut_1 : decode cX2_leaveOut 1 = .ok (.iload_n 1, 1) := by decide +kernel
theorem dX2_leaveOut_2 : decode cX2_leaveOut 2 = .ok (.invokevirtual 30, 3) := by decide +kernel
theorem dX2_leaveOut_5 : decode cX2_leaveOut 5 = .ok (.istore_n 2, 1) := by decide +kernel
theorem dX2_leaveOut_6 : decode cX2_leaveOut 6 = .ok (.aload_n 0, 1) := by decide +kernel
theorem dX2_leaveOut_7 : decode cX2_leaveOut 7 = .ok (.iload_n 2, 1) := by decide +kernel
theorem dX2_leaveOut_8 : decode cX2_leaveOut 8 = .ok (.invokevirtual 34, 3) := by decide +kernel
theorem dX2_leaveOut_11 : decode cX2_leaveOut 11 = .ok (.iload_n 1, 1) := by decide +kernel
theorem dX2_leaveOut_12 : decode cX2_leaveOut 12 = .ok (.if_icmp .eq 4, 3) := by decide +kernel
theorem dX2_leaveOut_16 : decode cX2_leaveOut 16 = .ok (.aload_n 0, 1) := by decide +kernel
theorem dX2_leaveOut_17 : decode cX2_leaveOut 17 = .ok (.getfield 11, 3) := by decide +kernel
theorem dX2_leaveOut_20 : decode cX2_leaveOut 20 = .ok (.iload_n 2, 1) := by decide +kernel
theorem dX2_leaveOut_21 : decode cX2_leaveOut 21 = .ok (.aaload, 1) := by decide +kernel
theorem dX2_leaveOut_22 : decode cX2_leaveOut 22 = .ok (.astore_n 3, 1) := by decide +kernel
theorem dX2_leaveOut_23 : decode cX2_leaveOut 23 = .ok (.aload_n 0, 1) := by decide +kernel
theorem dX2_leaveOut_24 : decode cX2_leaveOut 24 = .ok (.dup, 1) := by decide +kernel
theorem dX2_leaveOut_25 : decode cX2_leaveOut 25 = .ok (.getfield 18, 3) := by decide +kernel
theorem dX2_leaveOut_28 : decode cX2_leaveOut 28 = .ok (.iconst 1, 1) := by decide +kernel
theorem dX2_leaveOut_29 : decode cX2_leaveOut 29 = .ok (.isub, 1) := by decide +kernel
theorem dX2_leaveOut_30 : decode cX2_leaveOut 30 = .ok (.putfield 18, 3) := by decide +kernel
theorem dX2_leaveOut_33 : decode cX2_leaveOut 33 = .ok (.iload_n 2, 1) := by decide +kernel
theorem dX2_leaveOut_34 : decode cX2_leaveOut 34 = .ok (.istore 4, 2) := by decide +kernel
theorem dX2_leaveOut_36 : decode cX2_leaveOut 36 = .ok (.iload 4, 2) := by decide +kernel
theorem dX2_leaveOut_38 : decode cX2_leaveOut 38 = .ok (.aload_n 0, 1) := by decide +kernel
theorem dX2_leaveOut_39 : decode cX2_leaveOut 39 = .ok (.getfield 18, 3) := by decide +kernel
theorem dX2_leaveOut_42 : decode cX2_leaveOut 42 = .ok (.if_icmp .ge 25, 3) := by decide +kernel
theorem dX2_leaveOut_45 : decode cX2_leaveOut 45 = .ok (.aload_n 0, 1) := by decide +kernel
theorem dX2_leaveOut_46 : decode cX2_leaveOut 46 = .ok (.getfield 11, 3) := by decide +kernel
theorem dX2_leaveOut_49 : decode cX2_leaveOut 49 = .ok (.iload 4, 2) := by decide +kernel
theorem dX2_leaveOut_51 : decode cX2_leaveOut 51 = .ok (.aload_n 0, 1) := by decide +kernel
theorem dX2_leaveOut_52 : decode cX2_leaveOut 52 = .ok (.getfield 11, 3) := by decide +kernel
theorem dX2_leaveOut_55 : decode cX2_leaveOut 55 = .ok (.iload 4, 2) := by decide +kernel
theorem dX2_leaveOut_57 : decode cX2_leaveOut 57 = .ok (.iconst 1, 1) := by decide +kernel
theorem dX2_leaveOut_58 : decode cX2_leaveOut 58 = .ok (.iadd, 1) := by decide +kernel
theorem dX2_leaveOut_59 : decode cX2_leaveOut 59 = .ok (.aaload, 1) := by decide +kernel
theorem dX2_leaveOut_60 : decode cX2_leaveOut 60 = .ok (.aastore, 1) := by decide +kernel
theorem dX2_leaveOut_61 : decode cX2_leaveOut 61 = .ok (.iinc 4 1, 3) := by decide +kernel
theorem dX2_leaveOut_64 : decode cX2_leaveOut 64 = .ok (.goto (-28), 3) := by decide +kernel
theorem dX2_leaveOut_67 : decode cX2_leaveOut 67 = .ok (.aload_n 0, 1) := by decide +kernel
theorem dX2_leaveOut_68 : decode cX2_leaveOut 68 = .ok (.getfield 11, 3) := by decide +kernel
theorem dX2_leaveOut_71 : decode cX2_leaveOut 71 = .ok (.aload_n 0, 1) := by decide +kernel
theorem dX2_leaveOut_72 : decode cX2_leaveOut 72 = .ok (.getfield 18, 3) := by decide +kernel
theorem dX2_leaveOut_75 : decode cX2_leaveOut 75 = .ok (.aload_n 3, 1) := by decide +kernel
theorem dX2_leaveOut_76 : decode cX2_leaveOut 76 = .ok (.aastore, 1) := by decide +kernel
theorem dX2_leaveOut_77 : decode cX2_leaveOut 77 = .ok (.return_, 1) := by decide +kernel
set_option maxRecDepth 20000 in
theorem ggX2_changeSpan_X2_find : GoodIn wsX2_changeSpan wsX2_find := goodIn_r _ [5, 6, 7, 8, 9, 4, 10, 11, 12, 13, 14, 15, 16, 17, 68, 69, 70, 71, 72, 73] rfl (by decide +kernel)
set_option maxRecDepth 20000 in
theorem gX2_changeSpan_X2_find : GoodIn wsX2_changeSpan (wsV RX2 41 RX2 yX2_find wsX2_find) := goodIn_app (goodIn_of _ (by decide +kernel)) ggX2_changeSpan_X2_find
set_option maxRecDepth 20000 in
theorem ggX2_changeSpan_X2_findOrMake : GoodIn wsX2_changeSpan wsX2_findOrMake := goodIn_r _ [21, 6, 11, 7, 8, 9, 4, 10, 12, 13, 14, 15, 16, 17, 22, 23, 24, 25, 26, 27, 28, 29, 30, 31, 32, 33, 34, 35, 36, 37, 38, 39, 68, 69, 70, 71, 72, 73] rfl (by decide +kernel)
set_option maxRecDepth 20000 in
theorem gX2_changeSpan_X2_findOrMake : GoodIn wsX2_changeSpan (wsV RX2 45 RX2 yX2_findOrMake wsX2_findOrMake) := goodIn_app (goodIn_of _ (by decide +kernel)) ggX2_changeSpan_X2_findOrMake
set_option maxRecDepth 20000 in
theorem ggX2_changeSpan_X1_changeLows : GoodIn wsX2_changeSpan wsX1_changeLows := goodIn_r _ [43, 44, 27, 30, 45, 46, 25, 47, 48, 49, 50, 51, 52, 53, 54, 70, 71, 72, 73] rfl (by decide +kernel)
set_option maxRecDepth 20000 in
theorem gX2_changeSpan_X1_changeLows : GoodIn wsX2_changeSpan (wsV RX2 48 RX1 yX1_changeLows wsX1_changeLows) := goodIn_app (goodIn_of _ (by decide +kernel)) ggX2_changeSpan_X1_changeLows
set_option maxRecDepth 20000 in
theorem ggX2_changeSpan_X2_settle : GoodIn wsX2_changeSpan wsX2_settle := goodIn_r _ [58, 59, 12, 60, 61, 62, 25, 63, 30, 29, 64, 65, 66, 4, 67, 6, 11, 7, 8, 9, 10, 13, 14, 15, 16, 17, 70, 71, 72, 73, 68, 69] rfl (by decide +kernel)
set_option maxRecDepth 20000 in
theorem gX2_changeSpan_X2_settle : GoodIn wsX2_changeSpan (wsV RX2 52 RX2 yX2_settle wsX2_settle) := goodIn_app (goodIn_of _ (by decide +kernel)) ggX2_changeSpan_X2_settle
theorem dX2_changeSpan_0 : decode cX2_changeSpan 0 = .ok (.iload 4, 2) := by decide +kernel
theorem dX2_changeSpan_2 : decode cX2_changeSpan 2 = .ok (.iconst 1, 1) := by decide +kernel
theorem dX2_changeSpan_3 : decode cX2_changeSpan 3 = .ok (.if_icmp .ne 13, 3) := by decide +kernel
theorem dX2_changeSpan_6 : decode cX2_changeSpan 6 = .ok (.aload_n 0, 1) := by decide +kernel
theorem dX2_changeSpan_7 : decode cX2_changeSpan 7 = .ok (.iload_n 1, 1) := by decide +kernel
theorem dX2_changeSpan_8 : decode cX2_changeSpan 8 = .ok (.invokevirtual 41, 3) := by decide +kernel
theorem dX2_changeSpan_11 : decode cX2_changeSpan 11 = .ok (.ifnonnull 5, 3) := by decide +kernel
theorem dX2_changeSpan_14 : decode cX2_changeSpan 14 = .ok (.iconst 0, 1) := by decide +kernel
theorem dX2_changeSpan_15 : decode cX2_changeSpan 15 = .ok (.ireturn, 1) := by decide +kernel
theorem dX2_changeSpan_16 : decode cX2_changeSpan 16 = .ok (.aload_n 0, 1) := by decide +kernel
theorem dX2_changeSpan_17 : decode cX2_changeSpan 17 = .ok (.iload_n 1, 1) := by decide +kernel
theorem dX2_changeSpan_18 : decode cX2_changeSpan 18 = .ok (.invokevirtual 45, 3) := by decide +kernel
theorem dX2_changeSpan_21 : decode cX2_changeSpan 21 = .ok (.astore 5, 2) := by decide +kernel
theorem dX2_changeSpan_23 : decode cX2_changeSpan 23 = .ok (.aload 5, 2) := by decide +kernel
theorem dX2_changeSpan_25 : decode cX2_changeSpan 25 = .ok (.ifnonnull 6, 3) := by decide +kernel
theorem dX2_changeSpan_28 : decode cX2_changeSpan 28 = .ok (.bipush (-3), 2) := by decide +kernel
theorem dX2_changeSpan_30 : decode cX2_changeSpan 30 = .ok (.ireturn, 1) := by decide +kernel
theorem dX2_changeSpan_31 : decode cX2_changeSpan 31 = .ok (.aload_n 0, 1) := by decide +kernel
theorem dX2_changeSpan_32 : decode cX2_changeSpan 32 = .ok (.aload 5, 2) := by decide +kernel
theorem dX2_changeSpan_34 : decode cX2_changeSpan 34 = .ok (.aload 5, 2) := by decide +kernel
theorem dX2_changeSpan_36 : decode cX2_changeSpan 36 = .ok (.iload_n 2, 1) := by decide +kernel
theorem dX2_changeSpan_37 : decode cX2_changeSpan 37 = .ok (.iload_n 3, 1) := by decide +kernel
theorem dX2_changeSpan_38 : decode cX2_changeSpan 38 = .ok (.iload 4, 2) := by decide +kernel
theorem dX2_changeSpan_40 : decode cX2_changeSpan 40 = .ok (.invokevirtual 48, 3) := by decide +kernel
theorem dX2_changeSpan_43 : decode cX2_changeSpan 43 = .ok (.invokevirtual 52, 3) := by decide +kernel
theorem dX2_changeSpan_46 : decode cX2_changeSpan 46 = .ok (.ireturn, 1) := by decide +kernel
set_option maxRecDepth 20000 in
theorem ggX2_putSteps_X2_findOrMake : GoodIn wsX2_putSteps wsX2_findOrMake := goodIn_r _ [5, 6, 7, 8, 9, 10, 4, 11, 12, 13, 14, 15, 16, 17, 18, 19, 20, 21, 22, 23, 24, 25, 26, 27, 28, 29, 30, 31, 32, 33, 34, 35, 58, 59, 60, 61, 62, 63] rfl (by decide +kernel)
set_option maxRecDepth 20000 in
theorem gX2_putSteps_X2_findOrMake : GoodIn wsX2_putSteps (wsV RX2 45 RX2 yX2_findOrMake wsX2_findOrMake) := goodIn_app (goodIn_of _ (by decide +kernel)) ggX2_putSteps_X2_findOrMake
set_option maxRecDepth 20000 in
theorem ggX2_putSteps_X1_putLowsBySteps : GoodIn wsX2_putSteps wsX1_putLowsBySteps := goodIn_r _ [39, 26, 40, 23, 41, 42, 43, 21, 44, 60, 61, 62, 63] rfl (by decide +kernel)
set_option maxRecDepth 20000 in
theorem gX2_putSteps_X1_putLowsBySteps : GoodIn wsX2_putSteps (wsV RX2 56 RX1 yX1_putLowsBySteps wsX1_putLowsBySteps) := goodIn_app (goodIn_of _ (by decide +kernel)) ggX2_putSteps_X1_putLowsBySteps
set_option maxRecDepth 20000 in
theorem ggX2_putSteps_X2_settle : GoodIn wsX2_putSteps wsX2_settle := goodIn_r _ [48, 49, 12, 50, 51, 52, 21, 53, 26, 25, 54, 55, 56, 4, 57, 6, 7, 8, 9, 10, 11, 13, 14, 15, 16, 17, 60, 61, 62, 63, 58, 59] rfl (by decide +kernel)
set_option maxRecDepth 20000 in
theorem gX2_putSteps_X2_settle : GoodIn wsX2_putSteps (wsV RX2 52 RX2 yX2_settle wsX2_settle) := goodIn_app (goodIn_of _ (by decide +kernel)) ggX2_putSteps_X2_settle
theorem dX2_putSteps_0 : decode cX2_putSteps 0 = .ok (.aload_n 0, 1) := by decide +kernel
theorem dX2_putSteps_1 : decode cX2_putSteps 1 = .ok (.iload_n 1, 1) := by decide +kernel
theorem dX2_putSteps_2 : decode cX2_putSteps 2 = .ok (.invokevirtual 45, 3) := by decide +kernel
theorem dX2_putSteps_5 : decode cX2_putSteps 5 = .ok (.astore 4, 2) := by decide +kernel
theorem dX2_putSteps_7 : decode cX2_putSteps 7 = .ok (.aload 4, 2) := by decide +kernel
theorem dX2_putSteps_9 : decode cX2_putSteps 9 = .ok (.ifnonnull 6, 3) := by decide +kernel
theorem dX2_putSteps_12 : decode cX2_putSteps 12 = .ok (.bipush (-3), 2) := by decide +kernel
theorem dX2_putSteps_14 : decode cX2_putSteps 14 = .ok (.ireturn, 1) := by decide +kernel
theorem dX2_putSteps_15 : decode cX2_putSteps 15 = .ok (.aload_n 0, 1) := by decide +kernel
theorem dX2_putSteps_16 : decode cX2_putSteps 16 = .ok (.aload 4, 2) := by decide +kernel
theorem dX2_putSteps_18 : decode cX2_putSteps 18 = .ok (.aload 4, 2) := by decide +kernel
theorem dX2_putSteps_20 : decode cX2_putSteps 20 = .ok (.iload_n 2, 1) := by decide +kernel
theorem dX2_putSteps_21 : decode cX2_putSteps 21 = .ok (.iload_n 3, 1) := by decide +kernel
theorem dX2_putSteps_22 : decode cX2_putSteps 22 = .ok (.invokevirtual 56, 3) := by decide +kernel
theorem dX2_putSteps_25 : decode cX2_putSteps 25 = .ok (.invokevirtual 52, 3) := by decide +kernel
theorem dX2_putSteps_28 : decode cX2_putSteps 28 = .ok (.ireturn, 1) := by decide +kernel
set_option maxRecDepth 20000 in
theorem ggX2_settle_X1_setPlainKind : GoodIn wsX2_settle wsX1_setPlainKind := goodIn_r _ [7, 8, 9, 26, 27, 28, 29] rfl (by decide +kernel)
set_option maxRecDepth 20000 in
theorem gX2_settle_X1_setPlainKind : GoodIn wsX2_settle (wsV RX2 60 RX1 yX1_setPlainKind wsX1_setPlainKind) := goodIn_app (goodIn_of _ (by decide +kernel)) ggX2_settle_X1_setPlainKind
set_option maxRecDepth 20000 in
theorem ggX2_settle_X2_leaveOut : GoodIn wsX2_settle wsX2_leaveOut := goodIn_r _ [14, 15, 16, 17, 18, 19, 13, 20, 2, 21, 22, 23, 24, 25, 30, 31, 26, 27, 28, 29] rfl (by decide +kernel)
set_option maxRecDepth 20000 in
theorem gX2_settle_X2_leaveOut : GoodIn wsX2_settle (wsV RX2 66 RX2 yX2_leaveOut wsX2_leaveOut) := goodIn_app (goodIn_of _ (by decide +kernel)) ggX2_settle_X2_leaveOut
theorem dX2_settle_0 : decode cX2_settle 0 = .ok (.iload_n 2, 1) := by decide +kernel
theorem dX2_settle_1 : decode cX2_settle 1 = .ok (.ifCond .ne 5, 3) := by decide +kernel
theorem dX2_settle_4 : decode cX2_settle 4 = .ok (.iconst 0, 1) := by decide +kernel
theorem dX2_settle_5 : decode cX2_settle 5 = .ok (.ireturn, 1) := by decide +kernel
theorem dX2_settle_6 : decode cX2_settle 6 = .ok (.aload_n 1, 1) := by decide +kernel
theorem dX2_settle_7 : decode cX2_settle 7 = .ok (.invokevirtual 60, 3) := by decide +kernel
theorem dX2_settle_10 : decode cX2_settle 10 = .ok (.aload_n 1, 1) := by decide +kernel
theorem dX2_settle_11 : decode cX2_settle 11 = .ok (.getfield 63, 3) := by decide +kernel
theorem dX2_settle_14 : decode cX2_settle 14 = .ok (.ifCond .ne 11, 3) := by decide +kernel
theorem dX2_settle_17 : decode cX2_settle 17 = .ok (.aload_n 0, 1) := by decide +kernel
theorem dX2_settle_18 : decode cX2_settle 18 = .ok (.aload_n 1, 1) := by decide +kernel
theorem dX2_settle_19 : decode cX2_settle 19 = .ok (.getfield 26, 3) := by decide +kernel
theorem dX2_settle_22 : decode cX2_settle 22 = .ok (.invokevirtual 66, 3) := by decide +kernel
theorem dX2_settle_25 : decode cX2_settle 25 = .ok (.iconst 1, 1) := by decide +kernel
theorem dX2_settle_26 : decode cX2_settle 26 = .ok (.ireturn, 1) := by decide +kernel
set_option maxRecDepth 20000 in
theorem ggX2_becomeJoin_X2_keyAt : GoodIn wsX2_becomeJoin wsX2_keyAt := goodIn_r _ [9, 1, 3, 10, 2, 56, 57, 58, 59, 60, 61] rfl (by decide +kernel)
set_option maxRecDepth 20000 in
theorem gX2_becomeJoin_X2_keyAt : GoodIn wsX2_becomeJoin (wsV RX2 34 RX2 yX2_keyAt wsX2_keyAt) := goodIn_app (goodIn_of _ (by decide +kernel)) ggX2_becomeJoin_X2_keyAt
set_option maxRecDepth 20000 in
theorem ggX2_becomeJoin_X1_copyLowsOf : GoodIn wsX2_becomeJoin wsX1_copyLowsOf := goodIn_r _ [15, 16, 17, 18, 19, 20, 21, 22, 23, 24, 25, 26, 14, 27, 28, 58, 59, 60, 61] rfl (by decide +kernel)
set_option maxRecDepth 20000 in
theorem gX2_becomeJoin_X1_copyLowsOf : GoodIn wsX2_becomeJoin (wsV RX2 22 RX1 yX1_copyLowsOf wsX1_copyLowsOf) := goodIn_app (goodIn_of _ (by decide +kernel)) ggX2_becomeJoin_X1_copyLowsOf
set_option maxRecDepth 20000 in
theorem ggX2_becomeJoin_X1_becomeMix : GoodIn wsX2_becomeJoin wsX1_becomeMix := goodIn_r _ [32, 21, 23, 16, 22, 24, 25, 26, 14, 27, 28, 33, 34, 35, 36, 37, 38, 39, 40, 41, 42, 43, 44, 45, 46, 47, 48, 49, 50, 51, 52, 53, 54, 55, 58, 59, 60, 61] rfl (by decide +kernel)
set_option maxRecDepth 20000 in
theorem gX2_becomeJoin_X1_becomeMix : GoodIn wsX2_becomeJoin (wsV RX2 69 RX1 yX1_becomeMix wsX1_becomeMix) := goodIn_app (goodIn_of _ (by decide +kernel)) ggX2_becomeJoin_X1_becomeMix
theorem dX2_becomeJoin_0 : decode cX2_becomeJoin 0 = .ok (.iconst 0, 1) := by decide +kernel
theorem dX2_becomeJoin_1 : decode cX2_becomeJoin 1 = .ok (.istore 4, 2) := by decide +kernel
theorem dX2_becomeJoin_3 : decode cX2_becomeJoin 3 = .ok (.iconst 0, 1) := by decide +kernel
theorem dX2_becomeJoin_4 : decode cX2_becomeJoin 4 = .ok (.istore 5, 2) := by decide +kernel
theorem dX2_becomeJoin_6 : decode cX2_becomeJoin 6 = .ok (.aload_n 0, 1) := by decide +kernel
theorem dX2_becomeJoin_7 : decode cX2_becomeJoin 7 = .ok (.iconst 0, 1) := by decide +kernel
theorem dX2_becomeJoin_8 : decode cX2_becomeJoin 8 = .ok (.putfield 18, 3) := by decide +kernel
theorem dX2_becomeJoin_11 : decode cX2_becomeJoin 11 = .ok (.iconst 0, 1) := by decide +kernel
theorem dX2_becomeJoin_12 : decode cX2_becomeJoin 12 = .ok (.istore 6, 2) := by decide +kernel
theorem dX2_becomeJoin_14 : decode cX2_becomeJoin 14 = .ok (.iload 6, 2) := by decide +kernel
theorem dX2_becomeJoin_16 : decode cX2_becomeJoin 16 = .ok (.bipush 12, 2) := by decide +kernel
theorem dX2_becomeJoin_18 : decode cX2_becomeJoin 18 = .ok (.if_icmp .ge 201, 3) := by decide +kernel
theorem dX2_becomeJoin_21 : decode cX2_becomeJoin 21 = .ok (.aload_n 0, 1) := by decide +kernel
theorem dX2_becomeJoin_22 : decode cX2_becomeJoin 22 = .ok (.getfield 18, 3) := by decide +kernel
theorem dX2_becomeJoin_25 : decode cX2_becomeJoin 25 = .ok (.bipush 6, 2) := by decide +kernel
theorem dX2_becomeJoin_27 : decode cX2_becomeJoin 27 = .ok (.if_icmp .gt 192, 3) := by decide +kernel
theorem dX2_becomeJoin_30 : decode cX2_becomeJoin 30 = .ok (.aload_n 2, 1) := by decide +kernel
theorem dX2_becomeJoin_31 : decode cX2_becomeJoin 31 = .ok (.iload 4, 2) := by decide +kernel
theorem dX2_becomeJoin_33 : decode cX2_becomeJoin 33 = .ok (.invokevirtual 34, 3) := by decide +kernel
theorem dX2_becomeJoin_36 : decode cX2_becomeJoin 36 = .ok (.istore 7, 2) := by decide +kernel
theorem dX2_becomeJoin_38 : decode cX2_becomeJoin 38 = .ok (.aload_n 3, 1) := by decide +kernel
theorem dX2_becomeJoin_39 : decode cX2_becomeJoin 39 = .ok (.iload 5, 2) := by decide +kernel
theorem dX2_becomeJoin_41 : decode cX2_becomeJoin 41 = .ok (.invokevirtual 34, 3) := by decide +kernel
theorem dX2_becomeJoin_44 : decode cX2_becomeJoin 44 = .ok (.istore 8, 2) := by decide +kernel
theorem dX2_becomeJoin_46 : decode cX2_becomeJoin 46 = .ok (.iload 7, 2) := by decide +kernel
theorem dX2_becomeJoin_48 : decode cX2_becomeJoin 48 = .ok (.ldc 29, 2) := by decide +kernel
theorem dX2_becomeJoin_50 : decode cX2_becomeJoin 50 = .ok (.if_icmp .ne 13, 3) := by decide +kernel
theorem dX2_becomeJoin_53 : decode cX2_becomeJoin 53 = .ok (.iload 8, 2) := by decide +kernel
theorem dX2_becomeJoin_55 : decode cX2_becomeJoin 55 = .ok (.ldc 29, 2) := by decide +kernel
theorem dX2_becomeJoin_57 : decode cX2_becomeJoin 57 = .ok (.if_icmp .ne 6, 3) := by decide +kernel
theorem dX2_becomeJoin_60 : decode cX2_becomeJoin 60 = .ok (.goto 159, 3) := by decide +kernel
theorem dX2_becomeJoin_63 : decode cX2_becomeJoin 63 = .ok (.iload 7, 2) := by decide +kernel
theorem dX2_becomeJoin_65 : decode cX2_becomeJoin 65 = .ok (.iload 8, 2) := by decide +kernel
theorem dX2_becomeJoin_67 : decode cX2_becomeJoin 67 = .ok (.if_icmp .ge 39, 3) := by decide +kernel
theorem dX2_becomeJoin_70 : decode cX2_becomeJoin 70 = .ok (.iload_n 1, 1) := by decide +kernel
theorem dX2_becomeJoin_71 : decode cX2_becomeJoin 71 = .ok (.ifCond .eq 29, 3) := by decide +kernel
theorem dX2_becomeJoin_74 : decode cX2_becomeJoin 74 = .ok (.aload_n 0, 1) := by decide +kernel
theorem dX2_becomeJoin_75 : decode cX2_becomeJoin 75 = .ok (.getfield 11, 3) := by decide +kernel
theorem dX2_becomeJoin_78 : decode cX2_becomeJoin 78 = .ok (.aload_n 0, 1) := by decide +kernel
theorem dX2_becomeJoin_79 : decode cX2_becomeJoin 79 = .ok (.dup, 1) := by decide +kernel
theorem dX2_becomeJoin_80 : decode cX2_becomeJoin 80 = .ok (.getfield 18, 3) := by decide +kernel
theorem dX2_becomeJoin_83 : decode cX2_becomeJoin 83 = .ok (.dup_x1, 1) := by decide +kernel
theorem dX2_becomeJoin_84 : decode cX2_becomeJoin 84 = .ok (.iconst 1, 1) := by decide +kernel
theorem dX2_becomeJoin_85 : decode cX2_becomeJoin 85 = .ok (.iadd, 1) := by decide +kernel
theorem dX2_becomeJoin_86 : decode cX2_becomeJoin 86 = .ok (.putfield 18, 3) := by decide +kernel
theorem dX2_becomeJoin_89 : decode cX2_becomeJoin 89 = .ok (.aaload, 1) := by decide +kernel
theorem dX2_becomeJoin_90 : decode cX2_becomeJoin 90 = .ok (.aload_n 2, 1) := by decide +kernel
theorem dX2_becomeJoin_91 : decode cX2_becomeJoin 91 = .ok (.getfield 11, 3) := by decide +kernel
theorem dX2_becomeJoin_94 : decode cX2_becomeJoin 94 = .ok (.iload 4, 2) := by decide +kernel
theorem dX2_becomeJoin_96 : decode cX2_becomeJoin 96 = .ok (.aaload, 1) := by decide +kernel
theorem dX2_becomeJoin_97 : decode cX2_becomeJoin 97 = .ok (.invokevirtual 22, 3) := by decide +kernel
theorem dX2_becomeJoin_100 : decode cX2_becomeJoin 100 = .ok (.iinc 4 1, 3) := by decide +kernel
theorem dX2_becomeJoin_103 : decode cX2_becomeJoin 103 = .ok (.goto 110, 3) := by decide +kernel
theorem dX2_becomeJoin_106 : decode cX2_becomeJoin 106 = .ok (.iload 8, 2) := by decide +kernel
theorem dX2_becomeJoin_108 : decode cX2_becomeJoin 108 = .ok (.iload 7, 2) := by decide +kernel
theorem dX2_becomeJoin_110 : decode cX2_becomeJoin 110 = .ok (.if_icmp .ge 45, 3) := by decide +kernel
theorem dX2_becomeJoin_113 : decode cX2_becomeJoin 113 = .ok (.iload_n 1, 1) := by decide +kernel
theorem dX2_becomeJoin_114 : decode cX2_becomeJoin 114 = .ok (.iconst 1, 1) := by decide +kernel
theorem dX2_becomeJoin_115 : decode cX2_becomeJoin 115 = .ok (.if_icmp .eq 8, 3) := by decide +kernel
theorem dX2_becomeJoin_118 : decode cX2_becomeJoin 118 = .ok (.iload_n 1, 1) := by decide +kernel
theorem dX2_becomeJoin_119 : decode cX2_becomeJoin 119 = .ok (.iconst 2, 1) := by decide +kernel
theorem dX2_becomeJoin_120 : decode cX2_becomeJoin 120 = .ok (.if_icmp .ne 29, 3) := by decide +kernel
theorem dX2_becomeJoin_123 : decode cX2_becomeJoin 123 = .ok (.aload_n 0, 1) := by decide +kernel
theorem dX2_becomeJoin_124 : decode cX2_becomeJoin 124 = .ok (.getfield 11, 3) := by decide +kernel
theorem dX2_becomeJoin_127 : decode cX2_becomeJoin 127 = .ok (.aload_n 0, 1) := by decide +kernel
theorem dX2_becomeJoin_128 : decode cX2_becomeJoin 128 = .ok (.dup, 1) := by decide +kernel
theorem dX2_becomeJoin_129 : decode cX2_becomeJoin 129 = .ok (.getfield 18, 3) := by decide +kernel
theorem dX2_becomeJoin_132 : decode cX2_becomeJoin 132 = .ok (.dup_x1, 1) := by decide +kernel
theorem dX2_becomeJoin_133 : decode cX2_becomeJoin 133 = .ok (.iconst 1, 1) := by decide +kernel
theorem dX2_becomeJoin_134 : decode cX2_becomeJoin 134 = .ok (.iadd, 1) := by decide +kernel
theorem dX2_becomeJoin_135 : decode cX2_becomeJoin 135 = .ok (.putfield 18, 3) := by decide +kernel
theorem dX2_becomeJoin_138 : decode cX2_becomeJoin 138 = .ok (.aaload, 1) := by decide +kernel
theorem dX2_becomeJoin_139 : decode cX2_becomeJoin 139 = .ok (.aload_n 3, 1) := by decide +kernel
theorem dX2_becomeJoin_140 : decode cX2_becomeJoin 140 = .ok (.getfield 11, 3) := by decide +kernel
theorem dX2_becomeJoin_143 : decode cX2_becomeJoin 143 = .ok (.iload 5, 2) := by decide +kernel
theorem dX2_becomeJoin_145 : decode cX2_becomeJoin 145 = .ok (.aaload, 1) := by decide +kernel
theorem dX2_becomeJoin_146 : decode cX2_becomeJoin 146 = .ok (.invokevirtual 22, 3) := by decide +kernel
theorem dX2_becomeJoin_149 : decode cX2_becomeJoin 149 = .ok (.iinc 5 1, 3) := by decide +kernel
theorem dX2_becomeJoin_152 : decode cX2_becomeJoin 152 = .ok (.goto 61, 3) := by decide +kernel
theorem dX2_becomeJoin_155 : decode cX2_becomeJoin 155 = .ok (.aload_n 0, 1) := by decide +kernel
theorem dX2_becomeJoin_156 : decode cX2_becomeJoin 156 = .ok (.getfield 11, 3) := by decide +kernel
theorem dX2_becomeJoin_159 : decode cX2_becomeJoin 159 = .ok (.aload_n 0, 1) := by decide +kernel
theorem dX2_becomeJoin_160 : decode cX2_becomeJoin 160 = .ok (.getfield 18, 3) := by decide +kernel
theorem dX2_becomeJoin_163 : decode cX2_becomeJoin 163 = .ok (.aaload, 1) := by decide +kernel
theorem dX2_becomeJoin_164 : decode cX2_becomeJoin 164 = .ok (.iload_n 1, 1) := by decide +kernel
theorem dX2_becomeJoin_165 : decode cX2_becomeJoin 165 = .ok (.aload_n 2, 1) := by decide +kernel
theorem dX2_becomeJoin_166 : decode cX2_becomeJoin 166 = .ok (.getfield 11, 3) := by decide +kernel
theorem dX2_becomeJoin_169 : decode cX2_becomeJoin 169 = .ok (.iload 4, 2) := by decide +kernel
theorem dX2_becomeJoin_171 : decode cX2_becomeJoin 171 = .ok (.iinc 4 1, 3) := by decide +kernel
theorem dX2_becomeJoin_174 : decode cX2_becomeJoin 174 = .ok (.aaload, 1) := by decide +kernel
theorem dX2_becomeJoin_175 : decode cX2_becomeJoin 175 = .ok (.aload_n 3, 1) := by decide +kernel
theorem dX2_becomeJoin_176 : decode cX2_becomeJoin 176 = .ok (.getfield 11, 3) := by decide +kernel
theorem dX2_becomeJoin_179 : decode cX2_becomeJoin 179 = .ok (.iload 5, 2) := by decide +kernel
theorem dX2_becomeJoin_181 : decode cX2_becomeJoin 181 = .ok (.iinc 5 1, 3) := by decide +kernel
theorem dX2_becomeJoin_184 : decode cX2_becomeJoin 184 = .ok (.aaload, 1) := by decide +kernel
theorem dX2_becomeJoin_185 : decode cX2_becomeJoin 185 = .ok (.invokevirtual 69, 3) := by decide +kernel
theorem dX2_becomeJoin_188 : decode cX2_becomeJoin 188 = .ok (.aload_n 0, 1) := by decide +kernel
theorem dX2_becomeJoin_189 : decode cX2_becomeJoin 189 = .ok (.getfield 11, 3) := by decide +kernel
theorem dX2_becomeJoin_192 : decode cX2_becomeJoin 192 = .ok (.aload_n 0, 1) := by decide +kernel
theorem dX2_becomeJoin_193 : decode cX2_becomeJoin 193 = .ok (.getfield 18, 3) := by decide +kernel
theorem dX2_becomeJoin_196 : decode cX2_becomeJoin 196 = .ok (.aaload, 1) := by decide +kernel
theorem dX2_becomeJoin_197 : decode cX2_becomeJoin 197 = .ok (.getfield 63, 3) := by decide +kernel
theorem dX2_becomeJoin_200 : decode cX2_becomeJoin 200 = .ok (.ifCond .le 13, 3) := by decide +kernel
theorem dX2_becomeJoin_203 : decode cX2_becomeJoin 203 = .ok (.aload_n 0, 1) := by decide +kernel
theorem dX2_becomeJoin_204 : decode cX2_becomeJoin 204 = .ok (.dup, 1) := by decide +kernel
theorem dX2_becomeJoin_205 : decode cX2_becomeJoin 205 = .ok (.getfield 18, 3) := by decide +kernel
theorem dX2_becomeJoin_208 : decode cX2_becomeJoin 208 = .ok (.iconst 1, 1) := by decide +kernel
theorem dX2_becomeJoin_209 : decode cX2_becomeJoin 209 = .ok (.iadd, 1) := by decide +kernel
theorem dX2_becomeJoin_210 : decode cX2_becomeJoin 210 = .ok (.putfield 18, 3) := by decide +kernel
theorem dX2_becomeJoin_213 : decode cX2_becomeJoin 213 = .ok (.iinc 6 1, 3) := by decide +kernel
theorem dX2_becomeJoin_216 : decode cX2_becomeJoin 216 = .ok (.goto (-202), 3) := by decide +kernel
theorem dX2_becomeJoin_219 : decode cX2_becomeJoin 219 = .ok (.aload_n 0, 1) := by decide +kernel
theorem dX2_becomeJoin_220 : decode cX2_becomeJoin 220 = .ok (.getfield 18, 3) := by decide +kernel
theorem dX2_becomeJoin_223 : decode cX2_becomeJoin 223 = .ok (.bipush 6, 2) := by decide +kernel
theorem dX2_becomeJoin_225 : decode cX2_becomeJoin 225 = .ok (.if_icmp .gt 7, 3) := by decide +kernel
theorem dX2_becomeJoin_228 : decode cX2_becomeJoin 228 = .ok (.iconst 1, 1) := by decide +kernel
theorem dX2_becomeJoin_229 : decode cX2_becomeJoin 229 = .ok (.goto 4, 3) := by decide +kernel
theorem dX2_becomeJoin_232 : decode cX2_becomeJoin 232 = .ok (.iconst 0, 1) := by decide +kernel
theorem dX2_becomeJoin_233 : decode cX2_becomeJoin 233 = .ok (.ireturn, 1) := by decide +kernel
set_option maxRecDepth 20000 in
theorem ggX2_becomeAll_X2_changeSpan : GoodIn wsX2_becomeAll wsX2_changeSpan := goodIn_r _ [7, 8, 9, 10, 6, 11, 12, 13, 14, 15, 16, 1, 17, 18, 19, 20, 21, 22, 23, 24, 25, 26, 27, 28, 29, 30, 31, 32, 33, 34, 35, 36, 37, 38, 39, 40, 41, 42, 43, 44, 45, 46, 47, 48, 49, 50, 51, 52, 53, 54, 55, 56, 57, 58, 59, 60, 61, 62, 63, 64, 65, 66, 67, 68, 69, 70, 71, 72, 73, 74, 75, 76, 77, 78] rfl (by decide +kernel)
set_option maxRecDepth 20000 in
theorem gX2_becomeAll_X2_changeSpan : GoodIn wsX2_becomeAll (wsV RX2 74 RX2 yX2_changeSpan wsX2_changeSpan) := goodIn_app (goodIn_of _ (by decide +kernel)) ggX2_becomeAll_X2_changeSpan
theorem dX2_becomeAll_0 : decode cX2_becomeAll 0 = .ok (.aload_n 0, 1) := by decide +kernel
theorem dX2_becomeAll_1 : decode cX2_becomeAll 1 = .ok (.iconst 0, 1) := by decide +kernel
theorem dX2_becomeAll_2 : decode cX2_becomeAll 2 = .ok (.putfield 18, 3) := by decide +kernel
theorem dX2_becomeAll_5 : decode cX2_becomeAll 5 = .ok (.aload_n 0, 1) := by decide +kernel
theorem dX2_becomeAll_6 : decode cX2_becomeAll 6 = .ok (.iconst 0, 1) := by decide +kernel
theorem dX2_becomeAll_7 : decode cX2_becomeAll 7 = .ok (.iconst 0, 1) := by decide +kernel
theorem dX2_becomeAll_8 : decode cX2_becomeAll 8 = .ok (.ldc 73, 2) := by decide +kernel
theorem dX2_becomeAll_10 : decode cX2_becomeAll 10 = .ok (.iconst 0, 1) := by decide +kernel
theorem dX2_becomeAll_11 : decode cX2_becomeAll 11 = .ok (.invokevirtual 74, 3) := by decide +kernel
theorem dX2_becomeAll_14 : decode cX2_becomeAll 14 = .ok (.pop, 1) := by decide +kernel
theorem dX2_becomeAll_15 : decode cX2_becomeAll 15 = .ok (.return_, 1) := by decide +kernel
set_option maxRecDepth 20000 in
theorem ggX2_shrinkAll_X1_setSmallestKind : GoodIn wsX2_shrinkAll wsX1_setSmallestKind := goodIn_r _ [7, 8, 9, 10, 11, 12, 6, 13, 14, 15, 16, 17, 18, 19, 20, 21, 22, 23, 24, 25, 26, 29, 30, 31, 32] rfl (by decide +kernel)
set_option maxRecDepth 20000 in
theorem gX2_shrinkAll_X1_setSmallestKind : GoodIn wsX2_shrinkAll (wsV RX2 78 RX1 yX1_setSmallestKind wsX1_setSmallestKind) := goodIn_app (goodIn_of _ (by decide +kernel)) ggX2_shrinkAll_X1_setSmallestKind
theorem dX2_shrinkAll_0 : decode cX2_shrinkAll 0 = .ok (.iconst 0, 1) := by decide +kernel
theorem dX2_shrinkAll_1 : decode cX2_shrinkAll 1 = .ok (.istore_n 1, 1) := by decide +kernel
theorem dX2_shrinkAll_2 : decode cX2_shrinkAll 2 = .ok (.iload_n 1, 1) := by decide +kernel
theorem dX2_shrinkAll_3 : decode cX2_shrinkAll 3 = .ok (.aload_n 0, 1) := by decide +kernel
theorem dX2_shrinkAll_4 : decode cX2_shrinkAll 4 = .ok (.getfield 18, 3) := by decide +kernel
theorem dX2_shrinkAll_7 : decode cX2_shrinkAll 7 = .ok (.if_icmp .ge 18, 3) := by decide +kernel
theorem dX2_shrinkAll_10 : decode cX2_shrinkAll 10 = .ok (.aload_n 0, 1) := by decide +kernel
theorem dX2_shrinkAll_11 : decode cX2_shrinkAll 11 = .ok (.getfield 11, 3) := by decide +kernel
theorem dX2_shrinkAll_14 : decode cX2_shrinkAll 14 = .ok (.iload_n 1, 1) := by decide +kernel
theorem dX2_shrinkAll_15 : decode cX2_shrinkAll 15 = .ok (.aaload, 1) := by decide +kernel
theorem dX2_shrinkAll_16 : decode cX2_shrinkAll 16 = .ok (.invokevirtual 78, 3) := by decide +kernel
theorem dX2_shrinkAll_19 : decode cX2_shrinkAll 19 = .ok (.iinc 1 1, 3) := by decide +kernel
theorem dX2_shrinkAll_22 : decode cX2_shrinkAll 22 = .ok (.goto (-20), 3) := by decide +kernel
theorem dX2_shrinkAll_25 : decode cX2_shrinkAll 25 = .ok (.return_, 1) := by decide +kernel
theorem dX2_total_0 : decode cX2_total 0 = .ok (.iconst 0, 1) := by decide +kernel
theorem dX2_total_1 : decode cX2_total 1 = .ok (.istore_n 1, 1) := by decide +kernel
theorem dX2_total_2 : decode cX2_total 2 = .ok (.iconst 0, 1) := by decide +kernel
theorem dX2_total_3 : decode cX2_total 3 = .ok (.istore_n 2, 1) := by decide +kernel
theorem dX2_total_4 : decode cX2_total 4 = .ok (.iload_n 2, 1) := by decide +kernel
theorem dX2_total_5 : decode cX2_total 5 = .ok (.aload_n 0, 1) := by decide +kernel
theorem dX2_total_6 : decode cX2_total 6 = .ok (.getfield 18, 3) := by decide +kernel
theorem dX2_total_9 : decode cX2_total 9 = .ok (.if_icmp .ge 21, 3) := by decide +kernel
theorem dX2_total_12 : decode cX2_total 12 = .ok (.iload_n 1, 1) := by decide +kernel
theorem dX2_total_13 : decode cX2_total 13 = .ok (.aload_n 0, 1) := by decide +kernel
theorem dX2_total_14 : decode cX2_total 14 = .ok (.getfield 11, 3) := by decide +kernel
theorem dX2_total_17 : decode cX2_total 17 = .ok (.iload_n 2, 1) := by decide +kernel
theorem dX2_total_18 : decode cX2_total 18 = .ok (.aaload, 1) := by decide +kernel
theorem dX2_total_19 : decode cX2_total 19 = .ok (.getfield 63, 3) := by decide +kernel
theorem dX2_total_22 : decode cX2_total 22 = .ok (.iadd, 1) := by decide +kernel
theorem dX2_total_23 : decode cX2_total 23 = .ok (.istore_n 1, 1) := by decide +kernel
theorem dX2_total_24 : decode cX2_total 24 = .ok (.iinc 2 1, 3) := by decide +kernel
theorem dX2_total_27 : decode cX2_total 27 = .ok (.goto (-23), 3) := by decide +kernel
theorem dX2_total_30 : decode cX2_total 30 = .ok (.iload_n 1, 1) := by decide +kernel
theorem dX2_total_31 : decode cX2_total 31 = .ok (.ireturn, 1) := by decide +kernel
theorem dX2_totalOfKind_0 : decode cX2_totalOfKind 0 = .ok (.iconst 0, 1) := by decide +kernel
theorem dX2_totalOfKind_1 : decode cX2_totalOfKind 1 = .ok (.istore_n 2, 1) := by decide +kernel
theorem dX2_totalOfKind_2 : decode cX2_totalOfKind 2 = .ok (.iconst 0, 1) := by decide +kernel
theorem dX2_totalOfKind_3 : decode cX2_totalOfKind 3 = .ok (.istore_n 3, 1) := by decide +kernel
theorem dX2_totalOfKind_4 : decode cX2_totalOfKind 4 = .ok (.iload_n 3, 1) := by decide +kernel
theorem dX2_totalOfKind_5 : decode cX2_totalOfKind 5 = .ok (.aload_n 0, 1) := by decide +kernel
theorem dX2_totalOfKind_6 : decode cX2_totalOfKind 6 = .ok (.getfield 18, 3) := by decide +kernel
theorem dX2_totalOfKind_9 : decode cX2_totalOfKind 9 = .ok (.if_icmp .ge 25, 3) := by decide +kernel
theorem dX2_totalOfKind_12 : decode cX2_totalOfKind 12 = .ok (.aload_n 0, 1) := by decide +kernel
theorem dX2_totalOfKind_13 : decode cX2_totalOfKind 13 = .ok (.getfield 11, 3) := by decide +kernel
theorem dX2_totalOfKind_16 : decode cX2_totalOfKind 16 = .ok (.iload_n 3, 1) := by decide +kernel
theorem dX2_totalOfKind_17 : decode cX2_totalOfKind 17 = .ok (.aaload, 1) := by decide +kernel
theorem dX2_totalOfKind_18 : decode cX2_totalOfKind 18 = .ok (.getfield 81, 3) := by decide +kernel
theorem dX2_totalOfKind_21 : decode cX2_totalOfKind 21 = .ok (.iload_n 1, 1) := by decide +kernel
theorem dX2_totalOfKind_22 : decode cX2_totalOfKind 22 = .ok (.if_icmp .ne 6, 3) := by decide +kernel
theorem dX2_totalOfKind_25 : decode cX2_totalOfKind 25 = .ok (.iinc 2 1, 3) := by decide +kernel
theorem dX2_totalOfKind_28 : decode cX2_totalOfKind 28 = .ok (.iinc 3 1, 3) := by decide +kernel
theorem dX2_totalOfKind_31 : decode cX2_totalOfKind 31 = .ok (.goto (-27), 3) := by decide +kernel
theorem dX2_totalOfKind_34 : decode cX2_totalOfKind 34 = .ok (.iload_n 2, 1) := by decide +kernel
theorem dX2_totalOfKind_35 : decode cX2_totalOfKind 35 = .ok (.ireturn, 1) := by decide +kernel
set_option maxRecDepth 20000 in
theorem ggX2_totalUpTo_X1_lowsUpTo : GoodIn wsX2_totalUpTo wsX1_lowsUpTo := goodIn_r _ [9, 10, 11, 12, 8, 13, 14, 15, 16, 17, 18, 19, 20, 21, 24, 25, 26, 27] rfl (by decide +kernel)
set_option maxRecDepth 20000 in
theorem gX2_totalUpTo_X1_lowsUpTo : GoodIn wsX2_totalUpTo (wsV RX2 84 RX1 yX1_lowsUpTo wsX1_lowsUpTo) := goodIn_app (goodIn_of _ (by decide +kernel)) ggX2_totalUpTo_X1_lowsUpTo
theorem dX2_totalUpTo_0 : decode cX2_totalUpTo 0 = .ok (.iconst 0, 1) := by decide +kernel
theorem dX2_totalUpTo_1 : decode cX2_totalUpTo 1 = .ok (.istore_n 3, 1) := by decide +kernel
theorem dX2_totalUpTo_2 : decode cX2_totalUpTo 2 = .ok (.iconst 0, 1) := by decide +kernel
theorem dX2_totalUpTo_3 : decode cX2_totalUpTo 3 = .ok (.istore 4, 2) := by decide +kernel
theorem dX2_totalUpTo_5 : decode cX2_totalUpTo 5 = .ok (.iload 4, 2) := by decide +kernel
theorem dX2_totalUpTo_7 : decode cX2_totalUpTo 7 = .ok (.aload_n 0, 1) := by decide +kernel
theorem dX2_totalUpTo_8 : decode cX2_totalUpTo 8 = .ok (.getfield 18, 3) := by decide +kernel
theorem dX2_totalUpTo_11 : decode cX2_totalUpTo 11 = .ok (.if_icmp .ge 64, 3) := by decide +kernel
theorem dX2_totalUpTo_14 : decode cX2_totalUpTo 14 = .ok (.aload_n 0, 1) := by decide +kernel
theorem dX2_totalUpTo_15 : decode cX2_totalUpTo 15 = .ok (.getfield 11, 3) := by decide +kernel
theorem dX2_totalUpTo_18 : decode cX2_totalUpTo 18 = .ok (.iload 4, 2) := by decide +kernel
theorem dX2_totalUpTo_20 : decode cX2_totalUpTo 20 = .ok (.aaload, 1) := by decide +kernel
theorem dX2_totalUpTo_21 : decode cX2_totalUpTo 21 = .ok (.getfield 26, 3) := by decide +kernel
theorem dX2_totalUpTo_24 : decode cX2_totalUpTo 24 = .ok (.iload_n 1, 1) := by decide +kernel
theorem dX2_totalUpTo_25 : decode cX2_totalUpTo 25 = .ok (.if_icmp .gt 50, 3) := by decide +kernel
theorem dX2_totalUpTo_28 : decode cX2_totalUpTo 28 = .ok (.iload_n 3, 1) := by decide +kernel
theorem dX2_totalUpTo_29 : decode cX2_totalUpTo 29 = .ok (.aload_n 0, 1) := by decide +kernel
theorem dX2_totalUpTo_30 : decode cX2_totalUpTo 30 = .ok (.getfield 11, 3) := by decide +kernel
theorem dX2_totalUpTo_33 : decode cX2_totalUpTo 33 = .ok (.iload 4, 2) := by decide +kernel
theorem dX2_totalUpTo_35 : decode cX2_totalUpTo 35 = .ok (.aaload, 1) := by decide +kernel
theorem dX2_totalUpTo_36 : decode cX2_totalUpTo 36 = .ok (.getfield 26, 3) := by decide +kernel
theorem dX2_totalUpTo_39 : decode cX2_totalUpTo 39 = .ok (.iload_n 1, 1) := by decide +kernel
theorem dX2_totalUpTo_40 : decode cX2_totalUpTo 40 = .ok (.if_icmp .ge 16, 3) := by decide +kernel
theorem dX2_totalUpTo_43 : decode cX2_totalUpTo 43 = .ok (.aload_n 0, 1) := by decide +kernel
theorem dX2_totalUpTo_44 : decode cX2_totalUpTo 44 = .ok (.getfield 11, 3) := by decide +kernel
theorem dX2_totalUpTo_47 : decode cX2_totalUpTo 47 = .ok (.iload 4, 2) := by decide +kernel
theorem dX2_totalUpTo_49 : decode cX2_totalUpTo 49 = .ok (.aaload, 1) := by decide +kernel
theorem dX2_totalUpTo_50 : decode cX2_totalUpTo 50 = .ok (.getfield 63, 3) := by decide +kernel
theorem dX2_totalUpTo_53 : decode cX2_totalUpTo 53 = .ok (.goto 14, 3) := by decide +kernel
theorem dX2_totalUpTo_56 : decode cX2_totalUpTo 56 = .ok (.aload_n 0, 1) := by decide +kernel
theorem dX2_totalUpTo_57 : decode cX2_totalUpTo 57 = .ok (.getfield 11, 3) := by decide +kernel
theorem dX2_totalUpTo_60 : decode cX2_totalUpTo 60 = .ok (.iload 4, 2) := by decide +kernel
theorem dX2_totalUpTo_62 : decode cX2_totalUpTo 62 = .ok (.aaload, 1) := by decide +kernel
theorem dX2_totalUpTo_63 : decode cX2_totalUpTo 63 = .ok (.iload_n 2, 1) := by decide +kernel
theorem dX2_totalUpTo_64 : decode cX2_totalUpTo 64 = .ok (.invokevirtual 84, 3) := by decide +kernel
theorem dX2_totalUpTo_67 : decode cX2_totalUpTo 67 = .ok (.iadd, 1) := by decide +kernel
theorem dX2_totalUpTo_68 : decode cX2_totalUpTo 68 = .ok (.istore_n 3, 1) := by decide +kernel
theorem dX2_totalUpTo_69 : decode cX2_totalUpTo 69 = .ok (.iinc 4 1, 3) := by decide +kernel
theorem dX2_totalUpTo_72 : decode cX2_totalUpTo 72 = .ok (.goto (-67), 3) := by decide +kernel
theorem dX2_totalUpTo_75 : decode cX2_totalUpTo 75 = .ok (.iload_n 3, 1) := by decide +kernel
theorem dX2_totalUpTo_76 : decode cX2_totalUpTo 76 = .ok (.ireturn, 1) := by decide +kernel
set_option maxRecDepth 20000 in
theorem ggX2_numberAt_X1_lowAt : GoodIn wsX2_numberAt wsX1_lowAt := goodIn_r _ [10, 11, 12, 13, 14, 15, 16, 17, 18, 19, 20, 21, 22, 23, 24, 25, 26, 33, 34, 35, 36] rfl (by decide +kernel)
set_option maxRecDepth 20000 in
theorem gX2_numberAt_X1_lowAt : GoodIn wsX2_numberAt (wsV RX2 87 RX1 yX1_lowAt wsX1_lowAt) := goodIn_app (goodIn_of _ (by decide +kernel)) ggX2_numberAt_X1_lowAt
set_option maxRecDepth 20000 in
theorem ggX2_numberAt_X2_numberOf : GoodIn wsX2_numberAt wsX2_numberOf := goodIn_r _ [30] rfl (by decide +kernel)
set_option maxRecDepth 20000 in
theorem gX2_numberAt_X2_numberOf : GoodIn wsX2_numberAt (va_wsS RX2 90 yX2_numberOf wsX2_numberOf) := goodIn_app (goodIn_of _ (by decide +kernel)) ggX2_numberAt_X2_numberOf
theorem dX2_numberAt_0 : decode cX2_numberAt 0 = .ok (.iload_n 1, 1) := by decide +kernel
theorem dX2_numberAt_1 : decode cX2_numberAt 1 = .ok (.istore_n 2, 1) := by decide +kernel
theorem dX2_numberAt_2 : decode cX2_numberAt 2 = .ok (.iconst 0, 1) := by decide +kernel
theorem dX2_numberAt_3 : decode cX2_numberAt 3 = .ok (.istore_n 3, 1) := by decide +kernel
theorem dX2_numberAt_4 : decode cX2_numberAt 4 = .ok (.iload_n 3, 1) := by decide +kernel
theorem dX2_numberAt_5 : decode cX2_numberAt 5 = .ok (.aload_n 0, 1) := by decide +kernel
theorem dX2_numberAt_6 : decode cX2_numberAt 6 = .ok (.getfield 18, 3) := by decide +kernel
theorem dX2_numberAt_9 : decode cX2_numberAt 9 = .ok (.if_icmp .ge 57, 3) := by decide +kernel
theorem dX2_numberAt_12 : decode cX2_numberAt 12 = .ok (.iload_n 2, 1) := by decide +kernel
theorem dX2_numberAt_13 : decode cX2_numberAt 13 = .ok (.aload_n 0, 1) := by decide +kernel
theorem dX2_numberAt_14 : decode cX2_numberAt 14 = .ok (.getfield 11, 3) := by decide +kernel
theorem dX2_numberAt_17 : decode cX2_numberAt 17 = .ok (.iload_n 3, 1) := by decide +kernel
theorem dX2_numberAt_18 : decode cX2_numberAt 18 = .ok (.aaload, 1) := by decide +kernel
theorem dX2_numberAt_19 : decode cX2_numberAt 19 = .ok (.getfield 63, 3) := by decide +kernel
theorem dX2_numberAt_22 : decode cX2_numberAt 22 = .ok (.if_icmp .ge 26, 3) := by decide +kernel
theorem dX2_numberAt_25 : decode cX2_numberAt 25 = .ok (.aload_n 0, 1) := by decide +kernel
theorem dX2_numberAt_26 : decode cX2_numberAt 26 = .ok (.getfield 11, 3) := by decide +kernel
theorem dX2_numberAt_29 : decode cX2_numberAt 29 = .ok (.iload_n 3, 1) := by decide +kernel
theorem dX2_numberAt_30 : decode cX2_numberAt 30 = .ok (.aaload, 1) := by decide +kernel
theorem dX2_numberAt_31 : decode cX2_numberAt 31 = .ok (.getfield 26, 3) := by decide +kernel
theorem dX2_numberAt_34 : decode cX2_numberAt 34 = .ok (.aload_n 0, 1) := by decide +kernel
theorem dX2_numberAt_35 : decode cX2_numberAt 35 = .ok (.getfield 11, 3) := by decide +kernel
theorem dX2_numberAt_38 : decode cX2_numberAt 38 = .ok (.iload_n 3, 1) := by decide +kernel
theorem dX2_numberAt_39 : decode cX2_numberAt 39 = .ok (.aaload, 1) := by decide +kernel
theorem dX2_numberAt_40 : decode cX2_numberAt 40 = .ok (.iload_n 2, 1) := by decide +kernel
theorem dX2_numberAt_41 : decode cX2_numberAt 41 = .ok (.invokevirtual 87, 3) := by decide +kernel
theorem dX2_numberAt_44 : decode cX2_numberAt 44 = .ok (.invokestatic 90, 3) := by decide +kernel
theorem dX2_numberAt_47 : decode cX2_numberAt 47 = .ok (.lreturn, 1) := by decide +kernel
theorem dX2_numberAt_48 : decode cX2_numberAt 48 = .ok (.iload_n 2, 1) := by decide +kernel
theorem dX2_numberAt_49 : decode cX2_numberAt 49 = .ok (.aload_n 0, 1) := by decide +kernel
theorem dX2_numberAt_50 : decode cX2_numberAt 50 = .ok (.getfield 11, 3) := by decide +kernel
theorem dX2_numberAt_53 : decode cX2_numberAt 53 = .ok (.iload_n 3, 1) := by decide +kernel
theorem dX2_numberAt_54 : decode cX2_numberAt 54 = .ok (.aaload, 1) := by decide +kernel
theorem dX2_numberAt_55 : decode cX2_numberAt 55 = .ok (.getfield 63, 3) := by decide +kernel
theorem dX2_numberAt_58 : decode cX2_numberAt 58 = .ok (.isub, 1) := by decide +kernel
theorem dX2_numberAt_59 : decode cX2_numberAt 59 = .ok (.istore_n 2, 1) := by decide +kernel
theorem dX2_numberAt_60 : decode cX2_numberAt 60 = .ok (.iinc 3 1, 3) := by decide +kernel
theorem dX2_numberAt_63 : decode cX2_numberAt 63 = .ok (.goto (-59), 3) := by decide +kernel
theorem dX2_numberAt_66 : decode cX2_numberAt 66 = .ok (.ldc2_w 94, 3) := by decide +kernel
theorem dX2_numberAt_69 : decode cX2_numberAt 69 = .ok (.lreturn, 1) := by decide +kernel
set_option maxRecDepth 20000 in
theorem ggX2_firstFrom_X2_indexOf : GoodIn wsX2_firstFrom wsX2_indexOf := goodIn_r _ [10, 1, 2, 3, 35, 36, 37, 38, 39, 40] rfl (by decide +kernel)
set_option maxRecDepth 20000 in
theorem gX2_firstFrom_X2_indexOf : GoodIn wsX2_firstFrom (wsV RX2 30 RX2 yX2_indexOf wsX2_indexOf) := goodIn_app (goodIn_of _ (by decide +kernel)) ggX2_firstFrom_X2_indexOf
set_option maxRecDepth 20000 in
theorem ggX2_firstFrom_X1_firstIn : GoodIn wsX2_firstFrom wsX1_firstIn := goodIn_r _ [15, 16, 17, 18, 14, 19, 20, 21, 22, 23, 24, 25, 26, 27, 28, 29, 30, 31, 37, 38, 39, 40] rfl (by decide +kernel)
set_option maxRecDepth 20000 in
theorem gX2_firstFrom_X1_firstIn : GoodIn wsX2_firstFrom (wsV RX2 96 RX1 yX1_firstIn wsX1_firstIn) := goodIn_app (goodIn_of _ (by decide +kernel)) ggX2_firstFrom_X1_firstIn
set_option maxRecDepth 20000 in
theorem ggX2_firstFrom_X2_numberOf : GoodIn wsX2_firstFrom wsX2_numberOf := goodIn_r _ [34] rfl (by decide +kernel)
set_option maxRecDepth 20000 in
theorem gX2_firstFrom_X2_numberOf : GoodIn wsX2_firstFrom (va_wsS RX2 90 yX2_numberOf wsX2_numberOf) := goodIn_app (goodIn_of _ (by decide +kernel)) ggX2_firstFrom_X2_numberOf
theorem dX2_firstFrom_0 : decode cX2_firstFrom 0 = .ok (.aload_n 0, 1) := by decide +kernel
theorem dX2_firstFrom_1 : decode cX2_firstFrom 1 = .ok (.iload_n 1, 1) := by decide +kernel
theorem dX2_firstFrom_2 : decode cX2_firstFrom 2 = .ok (.invokevirtual 30, 3) := by decide +kernel
theorem dX2_firstFrom_5 : decode cX2_firstFrom 5 = .ok (.istore_n 3, 1) := by decide +kernel
theorem dX2_firstFrom_6 : decode cX2_firstFrom 6 = .ok (.iload_n 3, 1) := by decide +kernel
theorem dX2_firstFrom_7 : decode cX2_firstFrom 7 = .ok (.aload_n 0, 1) := by decide +kernel
theorem dX2_firstFrom_8 : decode cX2_firstFrom 8 = .ok (.getfield 18, 3) := by decide +kernel
theorem dX2_firstFrom_11 : decode cX2_firstFrom 11 = .ok (.if_icmp .ge 60, 3) := by decide +kernel
theorem dX2_firstFrom_14 : decode cX2_firstFrom 14 = .ok (.aload_n 0, 1) := by decide +kernel
theorem dX2_firstFrom_15 : decode cX2_firstFrom 15 = .ok (.getfield 11, 3) := by decide +kernel
theorem dX2_firstFrom_18 : decode cX2_firstFrom 18 = .ok (.iload_n 3, 1) := by decide +kernel
theorem dX2_firstFrom_19 : decode cX2_firstFrom 19 = .ok (.aaload, 1) := by decide +kernel
theorem dX2_firstFrom_20 : decode cX2_firstFrom 20 = .ok (.aload_n 0, 1) := by decide +kernel
theorem dX2_firstFrom_21 : decode cX2_firstFrom 21 = .ok (.getfield 11, 3) := by decide +kernel
theorem dX2_firstFrom_24 : decode cX2_firstFrom 24 = .ok (.iload_n 3, 1) := by decide +kernel
theorem dX2_firstFrom_25 : decode cX2_firstFrom 25 = .ok (.aaload, 1) := by decide +kernel
theorem dX2_firstFrom_26 : decode cX2_firstFrom 26 = .ok (.getfield 26, 3) := by decide +kernel
theorem dX2_firstFrom_29 : decode cX2_firstFrom 29 = .ok (.iload_n 1, 1) := by decide +kernel
theorem dX2_firstFrom_30 : decode cX2_firstFrom 30 = .ok (.if_icmp .ne 7, 3) := by decide +kernel
theorem dX2_firstFrom_33 : decode cX2_firstFrom 33 = .ok (.iload_n 2, 1) := by decide +kernel
theorem dX2_firstFrom_34 : decode cX2_firstFrom 34 = .ok (.goto 4, 3) := by decide +kernel
theorem dX2_firstFrom_37 : decode cX2_firstFrom 37 = .ok (.iconst 0, 1) := by decide +kernel
theorem dX2_firstFrom_38 : decode cX2_firstFrom 38 = .ok (.invokevirtual 96, 3) := by decide +kernel
theorem dX2_firstFrom_41 : decode cX2_firstFrom 41 = .ok (.istore 4, 2) := by decide +kernel
theorem dX2_firstFrom_43 : decode cX2_firstFrom 43 = .ok (.iload 4, 2) := by decide +kernel
theorem dX2_firstFrom_45 : decode cX2_firstFrom 45 = .ok (.ldc 29, 2) := by decide +kernel
theorem dX2_firstFrom_47 : decode cX2_firstFrom 47 = .ok (.if_icmp .eq 18, 3) := by decide +kernel
theorem dX2_firstFrom_50 : decode cX2_firstFrom 50 = .ok (.aload_n 0, 1) := by decide +kernel
theorem dX2_firstFrom_51 : decode cX2_firstFrom 51 = .ok (.getfield 11, 3) := by decide +kernel
theorem dX2_firstFrom_54 : decode cX2_firstFrom 54 = .ok (.iload_n 3, 1) := by decide +kernel
theorem dX2_firstFrom_55 : decode cX2_firstFrom 55 = .ok (.aaload, 1) := by decide +kernel
theorem dX2_firstFrom_56 : decode cX2_firstFrom 56 = .ok (.getfield 26, 3) := by decide +kernel
theorem dX2_firstFrom_59 : decode cX2_firstFrom 59 = .ok (.iload 4, 2) := by decide +kernel
theorem dX2_firstFrom_61 : decode cX2_firstFrom 61 = .ok (.invokestatic 90, 3) := by decide +kernel
theorem dX2_firstFrom_64 : decode cX2_firstFrom 64 = .ok (.lreturn, 1) := by decide +kernel
theorem dX2_firstFrom_65 : decode cX2_firstFrom 65 = .ok (.iinc 3 1, 3) := by decide +kernel
theorem dX2_firstFrom_68 : decode cX2_firstFrom 68 = .ok (.goto (-62), 3) := by decide +kernel
theorem dX2_firstFrom_71 : decode cX2_firstFrom 71 = .ok (.ldc2_w 94, 3) := by decide +kernel
theorem dX2_firstFrom_74 : decode cX2_firstFrom 74 = .ok (.lreturn, 1) := by decide +kernel
set_option maxRecDepth 20000 in
theorem ggX2_isInside_X2_find : GoodIn wsX2_isInside wsX2_find := goodIn_r _ [8, 2, 9, 10, 11, 7, 12, 1, 3, 13, 14, 15, 16, 17, 25, 26, 27, 28, 29, 30] rfl (by decide +kernel)
set_option maxRecDepth 20000 in
theorem gX2_isInside_X2_find : GoodIn wsX2_isInside (wsV RX2 41 RX2 yX2_find wsX2_find) := goodIn_app (goodIn_of _ (by decide +kernel)) ggX2_isInside_X2_find
set_option maxRecDepth 20000 in
theorem ggX2_isInside_X1_hasNoLowBut : GoodIn wsX2_isInside wsX1_hasNoLowBut := goodIn_r _ [22, 23, 24, 27, 28, 29, 30] rfl (by decide +kernel)
set_option maxRecDepth 20000 in
theorem gX2_isInside_X1_hasNoLowBut : GoodIn wsX2_isInside (wsV RX2 99 RX1 yX1_hasNoLowBut wsX1_hasNoLowBut) := goodIn_app (goodIn_of _ (by decide +kernel)) ggX2_isInside_X1_hasNoLowBut
theorem dX2_isInside_0 : decode cX2_isInside 0 = .ok (.iconst 0, 1) := by decide +kernel
theorem dX2_isInside_1 : decode cX2_isInside 1 = .ok (.istore_n 2, 1) := by decide +kernel
theorem dX2_isInside_2 : decode cX2_isInside 2 = .ok (.iload_n 2, 1) := by decide +kernel
theorem dX2_isInside_3 : decode cX2_isInside 3 = .ok (.aload_n 0, 1) := by decide +kernel
theorem dX2_isInside_4 : decode cX2_isInside 4 = .ok (.getfield 18, 3) := by decide +kernel
theorem dX2_isInside_7 : decode cX2_isInside 7 = .ok (.if_icmp .ge 42, 3) := by decide +kernel
theorem dX2_isInside_10 : decode cX2_isInside 10 = .ok (.aload_n 1, 1) := by decide +kernel
theorem dX2_isInside_11 : decode cX2_isInside 11 = .ok (.aload_n 0, 1) := by decide +kernel
theorem dX2_isInside_12 : decode cX2_isInside 12 = .ok (.getfield 11, 3) := by decide +kernel
theorem dX2_isInside_15 : decode cX2_isInside 15 = .ok (.iload_n 2, 1) := by decide +kernel
theorem dX2_isInside_16 : decode cX2_isInside 16 = .ok (.aaload, 1) := by decide +kernel
theorem dX2_isInside_17 : decode cX2_isInside 17 = .ok (.getfield 26, 3) := by decide +kernel
theorem dX2_isInside_20 : decode cX2_isInside 20 = .ok (.invokevirtual 41, 3) := by decide +kernel
theorem dX2_isInside_23 : decode cX2_isInside 23 = .ok (.astore_n 3, 1) := by decide +kernel
theorem dX2_isInside_24 : decode cX2_isInside 24 = .ok (.aload_n 3, 1) := by decide +kernel
theorem dX2_isInside_25 : decode cX2_isInside 25 = .ok (.ifnull 16, 3) := by decide +kernel
theorem dX2_isInside_28 : decode cX2_isInside 28 = .ok (.aload_n 0, 1) := by decide +kernel
theorem dX2_isInside_29 : decode cX2_isInside 29 = .ok (.getfield 11, 3) := by decide +kernel
theorem dX2_isInside_32 : decode cX2_isInside 32 = .ok (.iload_n 2, 1) := by decide +kernel
theorem dX2_isInside_33 : decode cX2_isInside 33 = .ok (.aaload, 1) := by decide +kernel
theorem dX2_isInside_34 : decode cX2_isInside 34 = .ok (.aload_n 3, 1) := by decide +kernel
theorem dX2_isInside_35 : decode cX2_isInside 35 = .ok (.invokevirtual 99, 3) := by decide +kernel
theorem dX2_isInside_38 : decode cX2_isInside 38 = .ok (.ifCond .ne 5, 3) := by decide +kernel
theorem dX2_isInside_41 : decode cX2_isInside 41 = .ok (.iconst 0, 1) := by decide +kernel
theorem dX2_isInside_42 : decode cX2_isInside 42 = .ok (.ireturn, 1) := by decide +kernel
theorem dX2_isInside_43 : decode cX2_isInside 43 = .ok (.iinc 2 1, 3) := by decide +kernel
theorem dX2_isInside_46 : decode cX2_isInside 46 = .ok (.goto (-44), 3) := by decide +kernel
theorem dX2_isInside_49 : decode cX2_isInside 49 = .ok (.iconst 1, 1) := by decide +kernel
theorem dX2_isInside_50 : decode cX2_isInside 50 = .ok (.ireturn, 1) := by decide +kernel
set_option maxRecDepth 20000 in
theorem ggX2_meets_X2_find : GoodIn wsX2_meets wsX2_find := goodIn_r _ [8, 2, 9, 10, 11, 7, 12, 1, 3, 13, 14, 15, 16, 17, 24, 25, 26, 27, 28, 29] rfl (by decide +kernel)
set_option maxRecDepth 20000 in
theorem gX2_meets_X2_find : GoodIn wsX2_meets (wsV RX2 41 RX2 yX2_find wsX2_find) := goodIn_app (goodIn_of _ (by decide +kernel)) ggX2_meets_X2_find
set_option maxRecDepth 20000 in
theorem ggX2_meets_X1_hasLowIn : GoodIn wsX2_meets wsX1_hasLowIn := goodIn_r _ [22, 23, 26, 27, 28, 29] rfl (by decide +kernel)
set_option maxRecDepth 20000 in
theorem gX2_meets_X1_hasLowIn : GoodIn wsX2_meets (wsV RX2 103 RX1 yX1_hasLowIn wsX1_hasLowIn) := goodIn_app (goodIn_of _ (by decide +kernel)) ggX2_meets_X1_hasLowIn
theorem dX2_meets_0 : decode cX2_meets 0 = .ok (.iconst 0, 1) := by decide +kernel
theorem dX2_meets_1 : decode cX2_meets 1 = .ok (.istore_n 2, 1) := by decide +kernel
theorem dX2_meets_2 : decode cX2_meets 2 = .ok (.iload_n 2, 1) := by decide +kernel
theorem dX2_meets_3 : decode cX2_meets 3 = .ok (.aload_n 0, 1) := by decide +kernel
theorem dX2_meets_4 : decode cX2_meets 4 = .ok (.getfield 18, 3) := by decide +kernel
theorem dX2_meets_7 : decode cX2_meets 7 = .ok (.if_icmp .ge 42, 3) := by decide +kernel
theorem dX2_meets_10 : decode cX2_meets 10 = .ok (.aload_n 1, 1) := by decide +kernel
theorem dX2_meets_11 : decode cX2_meets 11 = .ok (.aload_n 0, 1) := by decide +kernel
theorem dX2_meets_12 : decode cX2_meets 12 = .ok (.getfield 11, 3) := by decide +kernel
theorem dX2_meets_15 : decode cX2_meets 15 = .ok (.iload_n 2, 1) := by decide +kernel
theorem dX2_meets_16 : decode cX2_meets 16 = .ok (.aaload, 1) := by decide +kernel
theorem dX2_meets_17 : decode cX2_meets 17 = .ok (.getfield 26, 3) := by decide +kernel
theorem dX2_meets_20 : decode cX2_meets 20 = .ok (.invokevirtual 41, 3) := by decide +kernel
theorem dX2_meets_23 : decode cX2_meets 23 = .ok (.astore_n 3, 1) := by decide +kernel
theorem dX2_meets_24 : decode cX2_meets 24 = .ok (.aload_n 3, 1) := by decide +kernel
theorem dX2_meets_25 : decode cX2_meets 25 = .ok (.ifnull 18, 3) := by decide +kernel
theorem dX2_meets_28 : decode cX2_meets 28 = .ok (.aload_n 0, 1) := by decide +kernel
theorem dX2_meets_29 : decode cX2_meets 29 = .ok (.getfield 11, 3) := by decide +kernel
theorem dX2_meets_32 : decode cX2_meets 32 = .ok (.iload_n 2, 1) := by decide +kernel
theorem dX2_meets_33 : decode cX2_meets 33 = .ok (.aaload, 1) := by decide +kernel
theorem dX2_meets_34 : decode cX2_meets 34 = .ok (.aload_n 3, 1) := by decide +kernel
theorem dX2_meets_35 : decode cX2_meets 35 = .ok (.invokevirtual 103, 3) := by decide +kernel
theorem dX2_meets_38 : decode cX2_meets 38 = .ok (.ifCond .eq 5, 3) := by decide +kernel
theorem dX2_meets_41 : decode cX2_meets 41 = .ok (.iconst 1, 1) := by decide +kernel
theorem dX2_meets_42 : decode cX2_meets 42 = .ok (.ireturn, 1) := by decide +kernel
theorem dX2_meets_43 : decode cX2_meets 43 = .ok (.iinc 2 1, 3) := by decide +kernel
theorem dX2_meets_46 : decode cX2_meets 46 = .ok (.goto (-44), 3) := by decide +kernel
theorem dX2_meets_49 : decode cX2_meets 49 = .ok (.iconst 0, 1) := by decide +kernel
theorem dX2_meets_50 : decode cX2_meets 50 = .ok (.ireturn, 1) := by decide +kernel
set_option maxRecDepth 20000 in
theorem ggX2_digestSetFrom_X2_total : GoodIn wsX2_digestSetFrom wsX2_total := goodIn_r _ [8, 2, 3, 9, 32, 33, 34, 35, 36, 37] rfl (by decide +kernel)
set_option maxRecDepth 20000 in
theorem gX2_digestSetFrom_X2_total : GoodIn wsX2_digestSetFrom (wsV RX2 108 RX2 yX2_total wsX2_total) := goodIn_app (goodIn_of _ (by decide +kernel)) ggX2_digestSetFrom_X2_total
set_option maxRecDepth 20000 in
theorem ggX2_digestSetFrom_X1_digestFrom : GoodIn wsX2_digestSetFrom wsX1_digestFrom := goodIn_r _ [14, 15, 16, 17, 18, 19, 20, 21, 22, 13, 23, 24, 25, 26, 27, 28, 29, 30, 31, 34, 35, 36, 37] rfl (by decide +kernel)
set_option maxRecDepth 20000 in
theorem gX2_digestSetFrom_X1_digestFrom : GoodIn wsX2_digestSetFrom (wsV RX2 111 RX1 yX1_digestFrom wsX1_digestFrom) := goodIn_app (goodIn_of _ (by decide +kernel)) ggX2_digestSetFrom_X1_digestFrom
theorem dX2_digestSetFrom_0 : decode cX2_digestSetFrom 0 = .ok (.ldc2_w 106, 3) := by decide +kernel
theorem dX2_digestSetFrom_3 : decode cX2_digestSetFrom 3 = .ok (.lload_n 1, 1) := by decide +kernel
theorem dX2_digestSetFrom_4 : decode cX2_digestSetFrom 4 = .ok (.lmul, 1) := by decide +kernel
theorem dX2_digestSetFrom_5 : decode cX2_digestSetFrom 5 = .ok (.aload_n 0, 1) := by decide +kernel
theorem dX2_digestSetFrom_6 : decode cX2_digestSetFrom 6 = .ok (.invokevirtual 108, 3) := by decide +kernel
theorem dX2_digestSetFrom_9 : decode cX2_digestSetFrom 9 = .ok (.i2l, 1) := by decide +kernel
theorem dX2_digestSetFrom_10 : decode cX2_digestSetFrom 10 = .ok (.ladd, 1) := by decide +kernel
theorem dX2_digestSetFrom_11 : decode cX2_digestSetFrom 11 = .ok (.lstore_n 3, 1) := by decide +kernel
theorem dX2_digestSetFrom_12 : decode cX2_digestSetFrom 12 = .ok (.ldc2_w 106, 3) := by decide +kernel
theorem dX2_digestSetFrom_15 : decode cX2_digestSetFrom 15 = .ok (.lload_n 3, 1) := by decide +kernel
theorem dX2_digestSetFrom_16 : decode cX2_digestSetFrom 16 = .ok (.lmul, 1) := by decide +kernel
theorem dX2_digestSetFrom_17 : decode cX2_digestSetFrom 17 = .ok (.aload_n 0, 1) := by decide +kernel
theorem dX2_digestSetFrom_18 : decode cX2_digestSetFrom 18 = .ok (.getfield 18, 3) := by decide +kernel
theorem dX2_digestSetFrom_21 : decode cX2_digestSetFrom 21 = .ok (.i2l, 1) := by decide +kernel
theorem dX2_digestSetFrom_22 : decode cX2_digestSetFrom 22 = .ok (.ladd, 1) := by decide +kernel
theorem dX2_digestSetFrom_23 : decode cX2_digestSetFrom 23 = .ok (.lstore_n 3, 1) := by decide +kernel
theorem dX2_digestSetFrom_24 : decode cX2_digestSetFrom 24 = .ok (.iconst 0, 1) := by decide +kernel
theorem dX2_digestSetFrom_25 : decode cX2_digestSetFrom 25 = .ok (.istore 5, 2) := by decide +kernel
theorem dX2_digestSetFrom_27 : decode cX2_digestSetFrom 27 = .ok (.iload 5, 2) := by decide +kernel
theorem dX2_digestSetFrom_29 : decode cX2_digestSetFrom 29 = .ok (.aload_n 0, 1) := by decide +kernel
theorem dX2_digestSetFrom_30 : decode cX2_digestSetFrom 30 = .ok (.getfield 18, 3) := by decide +kernel
theorem dX2_digestSetFrom_33 : decode cX2_digestSetFrom 33 = .ok (.if_icmp .ge 21, 3) := by decide +kernel
theorem dX2_digestSetFrom_36 : decode cX2_digestSetFrom 36 = .ok (.aload_n 0, 1) := by decide +kernel
theorem dX2_digestSetFrom_37 : decode cX2_digestSetFrom 37 = .ok (.getfield 11, 3) := by decide +kernel
theorem dX2_digestSetFrom_40 : decode cX2_digestSetFrom 40 = .ok (.iload 5, 2) := by decide +kernel
theorem dX2_digestSetFrom_42 : decode cX2_digestSetFrom 42 = .ok (.aaload, 1) := by decide +kernel
theorem dX2_digestSetFrom_43 : decode cX2_digestSetFrom 43 = .ok (.lload_n 3, 1) := by decide +kernel
theorem dX2_digestSetFrom_44 : decode cX2_digestSetFrom 44 = .ok (.invokevirtual 111, 3) := by decide +kernel
theorem dX2_digestSetFrom_47 : decode cX2_digestSetFrom 47 = .ok (.lstore_n 3, 1) := by decide +kernel
theorem dX2_digestSetFrom_48 : decode cX2_digestSetFrom 48 = .ok (.iinc 5 1, 3) := by decide +kernel
theorem dX2_digestSetFrom_51 : decode cX2_digestSetFrom 51 = .ok (.goto (-24), 3) := by decide +kernel
theorem dX2_digestSetFrom_54 : decode cX2_digestSetFrom 54 = .ok (.lload_n 3, 1) := by decide +kernel
theorem dX2_digestSetFrom_55 : decode cX2_digestSetFrom 55 = .ok (.lreturn, 1) := by decide +kernel
theorem dX2_numberOf_0 : decode cX2_numberOf 0 = .ok (.iload_n 0, 1) := by decide +kernel
theorem dX2_numberOf_1 : decode cX2_numberOf 1 = .ok (.i2l, 1) := by decide +kernel
theorem dX2_numberOf_2 : decode cX2_numberOf 2 = .ok (.bipush 16, 2) := by decide +kernel
theorem dX2_numberOf_4 : decode cX2_numberOf 4 = .ok (.lshl, 1) := by decide +kernel
theorem dX2_numberOf_5 : decode cX2_numberOf 5 = .ok (.iload_n 1, 1) := by decide +kernel
theorem dX2_numberOf_6 : decode cX2_numberOf 6 = .ok (.i2l, 1) := by decide +kernel
theorem dX2_numberOf_7 : decode cX2_numberOf 7 = .ok (.lor, 1) := by decide +kernel
theorem dX2_numberOf_8 : decode cX2_numberOf 8 = .ok (.lreturn, 1) := by decide +kernel
set_option maxRecDepth 20000 in
theorem ggX3_init_X2_init : GoodIn wsX3_init wsX2_init := goodIn_r _ [10, 11, 2, 3, 12, 13, 14, 15, 16, 17, 18, 19, 22, 23, 24, 25, 26, 27] rfl (by decide +kernel)
set_option maxRecDepth 20000 in
theorem gX3_init_X2_init : GoodIn wsX3_init (wsX2_init) := ggX3_init_X2_init
theorem dX3_init_0 : decode cX3_init 0 = .ok (.aload_n 0, 1) := by decide +kernel
theorem dX3_init_1 : decode cX3_init 1 = .ok (.invokespecial 3, 3) := by decide +kernel
theorem dX3_init_4 : decode cX3_init 4 = .ok (.aload_n 0, 1) := by decide +kernel
theorem dX3_init_5 : decode cX3_init 5 = .ok (.bipush 8, 2) := by decide +kernel
theorem dX3_init_7 : decode cX3_init 7 = .ok (.anewarray 9, 3) := by decide +kernel
theorem dX3_init_10 : decode cX3_init 10 = .ok (.putfield 11, 3) := by decide +kernel
theorem dX3_init_13 : decode cX3_init 13 = .ok (.iconst 0, 1) := by decide +kernel
theorem dX3_init_14 : decode cX3_init 14 = .ok (.istore_n 1, 1) := by decide +kernel
theorem dX3_init_15 : decode cX3_init 15 = .ok (.iload_n 1, 1) := by decide +kernel
theorem dX3_init_16 : decode cX3_init 16 = .ok (.aload_n 0, 1) := by decide +kernel
theorem dX3_init_17 : decode cX3_init 17 = .ok (.getfield 11, 3) := by decide +kernel
theorem dX3_init_20 : decode cX3_init 20 = .ok (.arraylength, 1) := by decide +kernel
theorem dX3_init_21 : decode cX3_init 21 = .ok (.if_icmp .ge 22, 3) := by decide +kernel
theorem dX3_init_24 : decode cX3_init 24 = .ok (.aload_n 0, 1) := by decide +kernel
theorem dX3_init_25 : decode cX3_init 25 = .ok (.getfield 11, 3) := by decide +kernel
theorem dX3_init_28 : decode cX3_init 28 = .ok (.iload_n 1, 1) := by decide +kernel
theorem dX3_init_29 : decode cX3_init 29 = .ok (.new 9, 3) := by decide +kernel
theorem dX3_init_32 : decode cX3_init 32 = .ok (.dup, 1) := by decide +kernel
theorem dX3_init_33 : decode cX3_init 33 = .ok (.invokespecial 17, 3) := by decide +kernel
theorem dX3_init_36 : decode cX3_init 36 = .ok (.aastore, 1) := by decide +kernel
theorem dX3_init_37 : decode cX3_init 37 = .ok (.iinc 1 1, 3) := by decide +kernel
theorem dX3_init_40 : decode cX3_init 40 = .ok (.goto (-25), 3) := by decide +kernel
theorem dX3_init_43 : decode cX3_init 43 = .ok (.return_, 1) := by decide +kernel
set_option maxRecDepth 20000 in
theorem ggX3_isSound_X3_signAt : GoodIn wsX3_isSound wsX3_signAt := goodIn_r _ [4] rfl (by decide +kernel)
set_option maxRecDepth 20000 in
theorem gX3_isSound_X3_signAt : GoodIn wsX3_isSound (va_wsS RX3 18 yX3_signAt wsX3_signAt) := goodIn_app (goodIn_of _ (by decide +kernel)) ggX3_isSound_X3_signAt
set_option maxRecDepth 20000 in
theorem ggX3_isSound_X3_isJoin : GoodIn wsX3_isSound wsX3_isJoin := goodIn_r _ [7] rfl (by decide +kernel)
set_option maxRecDepth 20000 in
theorem gX3_isSound_X3_isJoin : GoodIn wsX3_isSound (va_wsS RX3 22 yX3_isJoin wsX3_isJoin) := goodIn_app (goodIn_of _ (by decide +kernel)) ggX3_isSound_X3_isJoin
theorem dX3_isSound_0 : decode cX3_isSound 0 = .ok (.iload_n 2, 1) := by decide +kernel
theorem dX3_isSound_1 : decode cX3_isSound 1 = .ok (.iconst 1, 1) := by decide +kernel
theorem dX3_isSound_2 : decode cX3_isSound 2 = .ok (.if_icmp .lt 9, 3) := by decide +kernel
theorem dX3_isSound_5 : decode cX3_isSound 5 = .ok (.iload_n 2, 1) := by decide +kernel
theorem dX3_isSound_6 : decode cX3_isSound 6 = .ok (.bipush 8, 2) := by decide +kernel
theorem dX3_isSound_8 : decode cX3_isSound 8 = .ok (.if_icmp .le 5, 3) := by decide +kernel
theorem dX3_isSound_11 : decode cX3_isSound 11 = .ok (.iconst 0, 1) := by decide +kernel
theorem dX3_isSound_12 : decode cX3_isSound 12 = .ok (.ireturn, 1) := by decide +kernel
theorem dX3_isSound_13 : decode cX3_isSound 13 = .ok (.iconst 0, 1) := by decide +kernel
theorem dX3_isSound_14 : decode cX3_isSound 14 = .ok (.istore_n 3, 1) := by decide +kernel
theorem dX3_isSound_15 : decode cX3_isSound 15 = .ok (.iconst 0, 1) := by decide +kernel
theorem dX3_isSound_16 : decode cX3_isSound 16 = .ok (.istore 4, 2) := by decide +kernel
theorem dX3_isSound_18 : decode cX3_isSound 18 = .ok (.iload 4, 2) := by decide +kernel
theorem dX3_isSound_20 : decode cX3_isSound 20 = .ok (.iload_n 2, 1) := by decide +kernel
theorem dX3_isSound_21 : decode cX3_isSound 21 = .ok (.if_icmp .ge 74, 3) := by decide +kernel
theorem dX3_isSound_24 : decode cX3_isSound 24 = .ok (.lload_n 0, 1) := by decide +kernel
theorem dX3_isSound_25 : decode cX3_isSound 25 = .ok (.iload 4, 2) := by decide +kernel
theorem dX3_isSound_27 : decode cX3_isSound 27 = .ok (.invokestatic 18, 3) := by decide +kernel
theorem dX3_isSound_30 : decode cX3_isSound 30 = .ok (.istore 5, 2) := by decide +kernel
theorem dX3_isSound_32 : decode cX3_isSound 32 = .ok (.iload 5, 2) := by decide +kernel
theorem dX3_isSound_34 : decode cX3_isSound 34 = .ok (.bipush 8, 2) := by decide +kernel
theorem dX3_isSound_36 : decode cX3_isSound 36 = .ok (.if_icmp .lt 10, 3) := by decide +kernel
theorem dX3_isSound_39 : decode cX3_isSound 39 = .ok (.iload 5, 2) := by decide +kernel
theorem dX3_isSound_41 : decode cX3_isSound 41 = .ok (.bipush 20, 2) := by decide +kernel
theorem dX3_isSound_43 : decode cX3_isSound 43 = .ok (.if_icmp .ne 9, 3) := by decide +kernel
theorem dX3_isSound_46 : decode cX3_isSound 46 = .ok (.iinc 3 1, 3) := by decide +kernel
theorem dX3_isSound_49 : decode cX3_isSound 49 = .ok (.goto 32, 3) := by decide +kernel
theorem dX3_isSound_52 : decode cX3_isSound 52 = .ok (.iload 5, 2) := by decide +kernel
theorem dX3_isSound_54 : decode cX3_isSound 54 = .ok (.invokestatic 22, 3) := by decide +kernel
theorem dX3_isSound_57 : decode cX3_isSound 57 = .ok (.ifCond .eq 14, 3) := by decide +kernel
theorem dX3_isSound_60 : decode cX3_isSound 60 = .ok (.iload_n 3, 1) := by decide +kernel
theorem dX3_isSound_61 : decode cX3_isSound 61 = .ok (.iconst 2, 1) := by decide +kernel
theorem dX3_isSound_62 : decode cX3_isSound 62 = .ok (.if_icmp .lt 9, 3) := by decide +kernel
theorem dX3_isSound_65 : decode cX3_isSound 65 = .ok (.iinc 3 (-1), 3) := by decide +kernel
theorem dX3_isSound_68 : decode cX3_isSound 68 = .ok (.goto 13, 3) := by decide +kernel
theorem dX3_isSound_71 : decode cX3_isSound 71 = .ok (.iload 5, 2) := by decide +kernel
theorem dX3_isSound_73 : decode cX3_isSound 73 = .ok (.sipush 255, 3) := by decide +kernel
theorem dX3_isSound_76 : decode cX3_isSound 76 = .ok (.if_icmp .eq 5, 3) := by decide +kernel
theorem dX3_isSound_79 : decode cX3_isSound 79 = .ok (.iconst 0, 1) := by decide +kernel
theorem dX3_isSound_80 : decode cX3_isSound 80 = .ok (.ireturn, 1) := by decide +kernel
theorem dX3_isSound_81 : decode cX3_isSound 81 = .ok (.iload_n 3, 1) := by decide +kernel
theorem dX3_isSound_82 : decode cX3_isSound 82 = .ok (.bipush 8, 2) := by decide +kernel
theorem dX3_isSound_84 : decode cX3_isSound 84 = .ok (.if_icmp .le 5, 3) := by decide +kernel
theorem dX3_isSound_87 : decode cX3_isSound 87 = .ok (.iconst 0, 1) := by decide +kernel
theorem dX3_isSound_88 : decode cX3_isSound 88 = .ok (.ireturn, 1) := by decide +kernel
theorem dX3_isSound_89 : decode cX3_isSound 89 = .ok (.iinc 4 1, 3) := by decide +kernel
theorem dX3_isSound_92 : decode cX3_isSound 92 = .ok (.goto (-74), 3) := by decide +kernel
theorem dX3_isSound_95 : decode cX3_isSound 95 = .ok (.iload_n 3, 1) := by decide +kernel
theorem dX3_isSound_96 : decode cX3_isSound 96 = .ok (.iconst 1, 1) := by decide +kernel
theorem dX3_isSound_97 : decode cX3_isSound 97 = .ok (.if_icmp .ne 7, 3) := by decide +kernel
theorem dX3_isSound_100 : decode cX3_isSound 100 = .ok (.iconst 1, 1) := by decide +kernel
theorem dX3_isSound_101 : decode cX3_isSound 101 = .ok (.goto 4, 3) := by decide +kernel
theorem dX3_isSound_104 : decode cX3_isSound 104 = .ok (.iconst 0, 1) := by decide +kernel
theorem dX3_isSound_105 : decode cX3_isSound 105 = .ok (.ireturn, 1) := by decide +kernel
set_option maxRecDepth 20000 in
theorem ggX3_evaluate_X3_signAt : GoodIn wsX3_evaluate wsX3_signAt := goodIn_r _ [6] rfl (by decide +kernel)
set_option maxRecDepth 20000 in
theorem gX3_evaluate_X3_signAt : GoodIn wsX3_evaluate (va_wsS RX3 18 yX3_signAt wsX3_signAt) := goodIn_app (goodIn_of _ (by decide +kernel)) ggX3_evaluate_X3_signAt
set_option maxRecDepth 20000 in
theorem ggX3_evaluate_X3_isJoin : GoodIn wsX3_evaluate wsX3_isJoin := goodIn_r _ [9] rfl (by decide +kernel)
set_option maxRecDepth 20000 in
theorem gX3_evaluate_X3_isJoin : GoodIn wsX3_evaluate (va_wsS RX3 22 yX3_isJoin wsX3_isJoin) := goodIn_app (goodIn_of _ (by decide +kernel)) ggX3_evaluate_X3_isJoin
set_option maxRecDepth 20000 in
theorem ggX3_evaluate_X3_joinUpperTwo : GoodIn wsX3_evaluate wsX3_joinUpperTwo := goodIn_r _ [13, 1, 2, 14, 15, 16, 17, 18, 19, 20, 21, 22, 23, 24, 25, 26, 27, 28, 29, 30, 31, 32, 33, 34, 35, 36, 37, 38, 39, 40, 41, 42, 43, 44, 45, 46, 47, 48, 49, 50, 51, 52, 53, 54, 55, 56, 57, 58, 59, 60, 61, 62, 63, 64, 65, 66, 67, 68, 69, 70, 71, 72, 73, 74, 75, 76, 126, 127, 128, 129, 130, 131, 132, 133] rfl (by decide +kernel)
set_option maxRecDepth 20000 in
theorem gX3_evaluate_X3_joinUpperTwo : GoodIn wsX3_evaluate (wsV RX3 30 RX3 yX3_joinUpperTwo wsX3_joinUpperTwo) := goodIn_app (goodIn_of _ (by decide +kernel)) ggX3_evaluate_X3_joinUpperTwo
set_option maxRecDepth 20000 in
theorem ggX3_evaluate_X2_becomeAll : GoodIn wsX3_evaluate wsX2_becomeAll := goodIn_r _ [80, 19, 81, 82, 83, 84, 17, 85, 86, 87, 88, 89, 21, 90, 91, 92, 93, 27, 23, 24, 25, 26, 20, 94, 95, 96, 97, 98, 99, 100, 31, 101, 33, 38, 39, 40, 41, 42, 43, 44, 45, 102, 103, 104, 105, 106, 107, 108, 109, 53, 110, 111, 112, 54, 55, 56, 57, 58, 59, 60, 113, 114, 115, 116, 22, 117, 70, 71, 72, 118, 119, 120, 121, 128, 129, 130, 131, 132, 133] rfl (by decide +kernel)
set_option maxRecDepth 20000 in
theorem gX3_evaluate_X2_becomeAll : GoodIn wsX3_evaluate (wsV RX3 34 RX2 yX2_becomeAll wsX2_becomeAll) := goodIn_app (goodIn_of _ (by decide +kernel)) ggX3_evaluate_X2_becomeAll
set_option maxRecDepth 20000 in
theorem ggX3_evaluate_X2_copyFrom : GoodIn wsX3_evaluate wsX2_copyFrom := goodIn_r _ [125, 19, 21, 28, 29, 30, 31, 32, 33, 34, 35, 36, 37, 38, 39, 40, 41, 42, 43, 44, 45, 128, 129, 130, 131, 132, 133] rfl (by decide +kernel)
set_option maxRecDepth 20000 in
theorem gX3_evaluate_X2_copyFrom : GoodIn wsX3_evaluate (wsV RX3 37 RX2 yX2_copyFrom wsX2_copyFrom) := goodIn_app (goodIn_of _ (by decide +kernel)) ggX3_evaluate_X2_copyFrom
theorem dX3_evaluate_0 : decode cX3_evaluate 0 = .ok (.aload_n 0, 1) := by decide +kernel
theorem dX3_evaluate_1 : decode cX3_evaluate 1 = .ok (.iconst 0, 1) := by decide +kernel
theorem dX3_evaluate_2 : decode cX3_evaluate 2 = .ok (.putfield 26, 3) := by decide +kernel
theorem dX3_evaluate_5 : decode cX3_evaluate 5 = .ok (.iconst 0, 1) := by decide +kernel
theorem dX3_evaluate_6 : decode cX3_evaluate 6 = .ok (.istore 6, 2) := by decide +kernel
theorem dX3_evaluate_8 : decode cX3_evaluate 8 = .ok (.iload 6, 2) := by decide +kernel
theorem dX3_evaluate_10 : decode cX3_evaluate 10 = .ok (.iload_n 3, 1) := by decide +kernel
theorem dX3_evaluate_11 : decode cX3_evaluate 11 = .ok (.if_icmp .ge 119, 3) := by decide +kernel
theorem dX3_evaluate_14 : decode cX3_evaluate 14 = .ok (.lload_n 1, 1) := by decide +kernel
theorem dX3_evaluate_15 : decode cX3_evaluate 15 = .ok (.iload 6, 2) := by decide +kernel
theorem dX3_evaluate_17 : decode cX3_evaluate 17 = .ok (.invokestatic 18, 3) := by decide +kernel
theorem dX3_evaluate_20 : decode cX3_evaluate 20 = .ok (.istore 7, 2) := by decide +kernel
theorem dX3_evaluate_22 : decode cX3_evaluate 22 = .ok (.iload 7, 2) := by decide +kernel
theorem dX3_evaluate_24 : decode cX3_evaluate 24 = .ok (.invokestatic 22, 3) := by decide +kernel
theorem dX3_evaluate_27 : decode cX3_evaluate 27 = .ok (.ifCond .eq 19, 3) := by decide +kernel
theorem dX3_evaluate_30 : decode cX3_evaluate 30 = .ok (.aload_n 0, 1) := by decide +kernel
theorem dX3_evaluate_31 : decode cX3_evaluate 31 = .ok (.iload 7, 2) := by decide +kernel
theorem dX3_evaluate_33 : decode cX3_evaluate 33 = .ok (.bipush 16, 2) := by decide +kernel
theorem dX3_evaluate_35 : decode cX3_evaluate 35 = .ok (.isub, 1) := by decide +kernel
theorem dX3_evaluate_36 : decode cX3_evaluate 36 = .ok (.aload 5, 2) := by decide +kernel
theorem dX3_evaluate_38 : decode cX3_evaluate 38 = .ok (.invokevirtual 30, 3) := by decide +kernel
theorem dX3_evaluate_41 : decode cX3_evaluate 41 = .ok (.ifCond .ne 83, 3) := by decide +kernel
theorem dX3_evaluate_44 : decode cX3_evaluate 44 = .ok (.iconst 0, 1) := by decide +kernel
theorem dX3_evaluate_45 : decode cX3_evaluate 45 = .ok (.ireturn, 1) := by decide +kernel
theorem dX3_evaluate_46 : decode cX3_evaluate 46 = .ok (.aload_n 0, 1) := by decide +kernel
theorem dX3_evaluate_47 : decode cX3_evaluate 47 = .ok (.getfield 26, 3) := by decide +kernel
theorem dX3_evaluate_50 : decode cX3_evaluate 50 = .ok (.bipush 8, 2) := by decide +kernel
theorem dX3_evaluate_52 : decode cX3_evaluate 52 = .ok (.if_icmp .ge 32, 3) := by decide +kernel
theorem dX3_evaluate_55 : decode cX3_evaluate 55 = .ok (.iload 7, 2) := by decide +kernel
theorem dX3_evaluate_57 : decode cX3_evaluate 57 = .ok (.bipush 20, 2) := by decide +kernel
theorem dX3_evaluate_59 : decode cX3_evaluate 59 = .ok (.if_icmp .ne 25, 3) := by decide +kernel
theorem dX3_evaluate_62 : decode cX3_evaluate 62 = .ok (.aload_n 0, 1) := by decide +kernel
theorem dX3_evaluate_63 : decode cX3_evaluate 63 = .ok (.getfield 11, 3) := by decide +kernel
theorem dX3_evaluate_66 : decode cX3_evaluate 66 = .ok (.aload_n 0, 1) := by decide +kernel
theorem dX3_evaluate_67 : decode cX3_evaluate 67 = .ok (.dup, 1) := by decide +kernel
theorem dX3_evaluate_68 : decode cX3_evaluate 68 = .ok (.getfield 26, 3) := by decide +kernel
theorem dX3_evaluate_71 : decode cX3_evaluate 71 = .ok (.dup_x1, 1) := by decide +kernel
theorem dX3_evaluate_72 : decode cX3_evaluate 72 = .ok (.iconst 1, 1) := by decide +kernel
theorem dX3_evaluate_73 : decode cX3_evaluate 73 = .ok (.iadd, 1) := by decide +kernel
theorem dX3_evaluate_74 : decode cX3_evaluate 74 = .ok (.putfield 26, 3) := by decide +kernel
theorem dX3_evaluate_77 : decode cX3_evaluate 77 = .ok (.aaload, 1) := by decide +kernel
theorem dX3_evaluate_78 : decode cX3_evaluate 78 = .ok (.invokevirtual 34, 3) := by decide +kernel
theorem dX3_evaluate_81 : decode cX3_evaluate 81 = .ok (.goto 43, 3) := by decide +kernel
theorem dX3_evaluate_84 : decode cX3_evaluate 84 = .ok (.aload_n 0, 1) := by decide +kernel
theorem dX3_evaluate_85 : decode cX3_evaluate 85 = .ok (.getfield 26, 3) := by decide +kernel
theorem dX3_evaluate_88 : decode cX3_evaluate 88 = .ok (.bipush 8, 2) := by decide +kernel
theorem dX3_evaluate_90 : decode cX3_evaluate 90 = .ok (.if_icmp .ge 34, 3) := by decide +kernel
theorem dX3_evaluate_93 : decode cX3_evaluate 93 = .ok (.iload 7, 2) := by decide +kernel
theorem dX3_evaluate_95 : decode cX3_evaluate 95 = .ok (.bipush 8, 2) := by decide +kernel
theorem dX3_evaluate_97 : decode cX3_evaluate 97 = .ok (.if_icmp .ge 27, 3) := by decide +kernel
theorem dX3_evaluate_100 : decode cX3_evaluate 100 = .ok (.aload_n 0, 1) := by decide +kernel
theorem dX3_evaluate_101 : decode cX3_evaluate 101 = .ok (.getfield 11, 3) := by decide +kernel
theorem dX3_evaluate_104 : decode cX3_evaluate 104 = .ok (.aload_n 0, 1) := by decide +kernel
theorem dX3_evaluate_105 : decode cX3_evaluate 105 = .ok (.dup, 1) := by decide +kernel
theorem dX3_evaluate_106 : decode cX3_evaluate 106 = .ok (.getfield 26, 3) := by decide +kernel
theorem dX3_evaluate_109 : decode cX3_evaluate 109 = .ok (.dup_x1, 1) := by decide +kernel
theorem dX3_evaluate_110 : decode cX3_evaluate 110 = .ok (.iconst 1, 1) := by decide +kernel
theorem dX3_evaluate_111 : decode cX3_evaluate 111 = .ok (.iadd, 1) := by decide +kernel
theorem dX3_evaluate_112 : decode cX3_evaluate 112 = .ok (.putfield 26, 3) := by decide +kernel
theorem dX3_evaluate_115 : decode cX3_evaluate 115 = .ok (.aaload, 1) := by decide +kernel
theorem dX3_evaluate_116 : decode cX3_evaluate 116 = .ok (.aload 4, 2) := by decide +kernel
theorem dX3_evaluate_118 : decode cX3_evaluate 118 = .ok (.iload 7, 2) := by decide +kernel
theorem dX3_evaluate_120 : decode cX3_evaluate 120 = .ok (.aaload, 1) := by decide +kernel
theorem dX3_evaluate_121 : decode cX3_evaluate 121 = .ok (.invokevirtual 37, 3) := by decide +kernel
theorem dX3_evaluate_124 : decode cX3_evaluate 124 = .ok (.iinc 6 1, 3) := by decide +kernel
theorem dX3_evaluate_127 : decode cX3_evaluate 127 = .ok (.goto (-119), 3) := by decide +kernel
theorem dX3_evaluate_130 : decode cX3_evaluate 130 = .ok (.iconst 1, 1) := by decide +kernel
theorem dX3_evaluate_131 : decode cX3_evaluate 131 = .ok (.ireturn, 1) := by decide +kernel
set_option maxRecDepth 20000 in
theorem ggX3_joinUpperTwo_X2_becomeJoin : GoodIn wsX3_joinUpperTwo wsX2_becomeJoin := goodIn_r _ [7, 8, 9, 10, 11, 12, 13, 14, 6, 15, 16, 17, 18, 19, 20, 21, 22, 23, 24, 25, 26, 27, 28, 29, 30, 31, 32, 33, 34, 35, 36, 37, 38, 39, 40, 41, 42, 43, 44, 45, 46, 47, 48, 49, 50, 51, 52, 53, 54, 55, 56, 57, 58, 59, 60, 61, 68, 69, 70, 71, 72, 73] rfl (by decide +kernel)
set_option maxRecDepth 20000 in
theorem gX3_joinUpperTwo_X2_becomeJoin : GoodIn wsX3_joinUpperTwo (wsV RX3 41 RX2 yX2_becomeJoin wsX2_becomeJoin) := goodIn_app (goodIn_of _ (by decide +kernel)) ggX3_joinUpperTwo_X2_becomeJoin
set_option maxRecDepth 20000 in
theorem ggX3_joinUpperTwo_X2_exchange : GoodIn wsX3_joinUpperTwo wsX2_exchange := goodIn_r _ [65, 10, 8, 68, 69] rfl (by decide +kernel)
set_option maxRecDepth 20000 in
theorem gX3_joinUpperTwo_X2_exchange : GoodIn wsX3_joinUpperTwo (wsV RX3 45 RX2 yX2_exchange wsX2_exchange) := goodIn_app (goodIn_of _ (by decide +kernel)) ggX3_joinUpperTwo_X2_exchange
theorem dX3_joinUpperTwo_0 : decode cX3_joinUpperTwo 0 = .ok (.aload_n 0, 1) := by decide +kernel
theorem dX3_joinUpperTwo_1 : decode cX3_joinUpperTwo 1 = .ok (.getfield 26, 3) := by decide +kernel
theorem dX3_joinUpperTwo_4 : decode cX3_joinUpperTwo 4 = .ok (.iconst 2, 1) := by decide +kernel
theorem dX3_joinUpperTwo_5 : decode cX3_joinUpperTwo 5 = .ok (.if_icmp .lt 33, 3) := by decide +kernel
theorem dX3_joinUpperTwo_8 : decode cX3_joinUpperTwo 8 = .ok (.aload_n 2, 1) := by decide +kernel
theorem dX3_joinUpperTwo_9 : decode cX3_joinUpperTwo 9 = .ok (.iload_n 1, 1) := by decide +kernel
theorem dX3_joinUpperTwo_10 : decode cX3_joinUpperTwo 10 = .ok (.aload_n 0, 1) := by decide +kernel
theorem dX3_joinUpperTwo_11 : decode cX3_joinUpperTwo 11 = .ok (.getfield 11, 3) := by decide +kernel
theorem dX3_joinUpperTwo_14 : decode cX3_joinUpperTwo 14 = .ok (.aload_n 0, 1) := by decide +kernel
theorem dX3_joinUpperTwo_15 : decode cX3_joinUpperTwo 15 = .ok (.getfield 26, 3) := by decide +kernel
theorem dX3_joinUpperTwo_18 : decode cX3_joinUpperTwo 18 = .ok (.iconst 2, 1) := by decide +kernel
theorem dX3_joinUpperTwo_19 : decode cX3_joinUpperTwo 19 = .ok (.isub, 1) := by decide +kernel
theorem dX3_joinUpperTwo_20 : decode cX3_joinUpperTwo 20 = .ok (.aaload, 1) := by decide +kernel
theorem dX3_joinUpperTwo_21 : decode cX3_joinUpperTwo 21 = .ok (.aload_n 0, 1) := by decide +kernel
theorem dX3_joinUpperTwo_22 : decode cX3_joinUpperTwo 22 = .ok (.getfield 11, 3) := by decide +kernel
theorem dX3_joinUpperTwo_25 : decode cX3_joinUpperTwo 25 = .ok (.aload_n 0, 1) := by decide +kernel
theorem dX3_joinUpperTwo_26 : decode cX3_joinUpperTwo 26 = .ok (.getfield 26, 3) := by decide +kernel
theorem dX3_joinUpperTwo_29 : decode cX3_joinUpperTwo 29 = .ok (.iconst 1, 1) := by decide +kernel
theorem dX3_joinUpperTwo_30 : decode cX3_joinUpperTwo 30 = .ok (.isub, 1) := by decide +kernel
theorem dX3_joinUpperTwo_31 : decode cX3_joinUpperTwo 31 = .ok (.aaload, 1) := by decide +kernel
theorem dX3_joinUpperTwo_32 : decode cX3_joinUpperTwo 32 = .ok (.invokevirtual 41, 3) := by decide +kernel
theorem dX3_joinUpperTwo_35 : decode cX3_joinUpperTwo 35 = .ok (.ifCond .ne 5, 3) := by decide +kernel
theorem dX3_joinUpperTwo_38 : decode cX3_joinUpperTwo 38 = .ok (.iconst 0, 1) := by decide +kernel
theorem dX3_joinUpperTwo_39 : decode cX3_joinUpperTwo 39 = .ok (.ireturn, 1) := by decide +kernel
theorem dX3_joinUpperTwo_40 : decode cX3_joinUpperTwo 40 = .ok (.aload_n 0, 1) := by decide +kernel
theorem dX3_joinUpperTwo_41 : decode cX3_joinUpperTwo 41 = .ok (.dup, 1) := by decide +kernel
theorem dX3_joinUpperTwo_42 : decode cX3_joinUpperTwo 42 = .ok (.getfield 26, 3) := by decide +kernel
theorem dX3_joinUpperTwo_45 : decode cX3_joinUpperTwo 45 = .ok (.iconst 1, 1) := by decide +kernel
theorem dX3_joinUpperTwo_46 : decode cX3_joinUpperTwo 46 = .ok (.isub, 1) := by decide +kernel
theorem dX3_joinUpperTwo_47 : decode cX3_joinUpperTwo 47 = .ok (.putfield 26, 3) := by decide +kernel
theorem dX3_joinUpperTwo_50 : decode cX3_joinUpperTwo 50 = .ok (.aload_n 0, 1) := by decide +kernel
theorem dX3_joinUpperTwo_51 : decode cX3_joinUpperTwo 51 = .ok (.getfield 11, 3) := by decide +kernel
theorem dX3_joinUpperTwo_54 : decode cX3_joinUpperTwo 54 = .ok (.aload_n 0, 1) := by decide +kernel
theorem dX3_joinUpperTwo_55 : decode cX3_joinUpperTwo 55 = .ok (.getfield 26, 3) := by decide +kernel
theorem dX3_joinUpperTwo_58 : decode cX3_joinUpperTwo 58 = .ok (.iconst 1, 1) := by decide +kernel
theorem dX3_joinUpperTwo_59 : decode cX3_joinUpperTwo 59 = .ok (.isub, 1) := by decide +kernel
theorem dX3_joinUpperTwo_60 : decode cX3_joinUpperTwo 60 = .ok (.aaload, 1) := by decide +kernel
theorem dX3_joinUpperTwo_61 : decode cX3_joinUpperTwo 61 = .ok (.aload_n 2, 1) := by decide +kernel
theorem dX3_joinUpperTwo_62 : decode cX3_joinUpperTwo 62 = .ok (.invokevirtual 45, 3) := by decide +kernel
theorem dX3_joinUpperTwo_65 : decode cX3_joinUpperTwo 65 = .ok (.iconst 1, 1) := by decide +kernel
theorem dX3_joinUpperTwo_66 : decode cX3_joinUpperTwo 66 = .ok (.ireturn, 1) := by decide +kernel
theorem dX3_signAt_0 : decode cX3_signAt 0 = .ok (.lload_n 0, 1) := by decide +kernel
theorem dX3_signAt_1 : decode cX3_signAt 1 = .ok (.bipush 8, 2) := by decide +kernel
theorem dX3_signAt_3 : decode cX3_signAt 3 = .ok (.iload_n 2, 1) := by decide +kernel
theorem dX3_signAt_4 : decode cX3_signAt 4 = .ok (.imul, 1) := by decide +kernel
theorem dX3_signAt_5 : decode cX3_signAt 5 = .ok (.lushr, 1) := by decide +kernel
theorem dX3_signAt_6 : decode cX3_signAt 6 = .ok (.l2i, 1) := by decide +kernel
theorem dX3_signAt_7 : decode cX3_signAt 7 = .ok (.sipush 255, 3) := by decide +kernel
theorem dX3_signAt_10 : decode cX3_signAt 10 = .ok (.iand, 1) := by decide +kernel
theorem dX3_signAt_11 : decode cX3_signAt 11 = .ok (.ireturn, 1) := by decide +kernel
theorem dX3_isJoin_0 : decode cX3_isJoin 0 = .ok (.iload_n 0, 1) := by decide +kernel
theorem dX3_isJoin_1 : decode cX3_isJoin 1 = .ok (.bipush 16, 2) := by decide +kernel
theorem dX3_isJoin_3 : decode cX3_isJoin 3 = .ok (.if_icmp .lt 13, 3) := by decide +kernel
theorem dX3_isJoin_6 : decode cX3_isJoin 6 = .ok (.iload_n 0, 1) := by decide +kernel
theorem dX3_isJoin_7 : decode cX3_isJoin 7 = .ok (.bipush 19, 2) := by decide +kernel
theorem dX3_isJoin_9 : decode cX3_isJoin 9 = .ok (.if_icmp .gt 7, 3) := by decide +kernel
theorem dX3_isJoin_12 : decode cX3_isJoin 12 = .ok (.iconst 1, 1) := by decide +kernel
theorem dX3_isJoin_13 : decode cX3_isJoin 13 = .ok (.goto 4, 3) := by decide +kernel
theorem dX3_isJoin_16 : decode cX3_isJoin 16 = .ok (.iconst 0, 1) := by decide +kernel
theorem dX3_isJoin_17 : decode cX3_isJoin 17 = .ok (.ireturn, 1) := by decide +kernel
