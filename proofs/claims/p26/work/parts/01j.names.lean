theorem dJ6_numberOfTrailingZeros_0f7a4_0 : decode cJ6_numberOfTrailingZeros_0f7a4 0 = .ok (.iload_n 0, 1) := by decide +kernel
theorem dJ6_numberOfTrailingZeros_0f7a4_1 : decode cJ6_numberOfTrailingZeros_0f7a4 1 = .ok (.iconst (-1), 1) := by decide +kernel
theorem dJ6_numberOfTrailingZeros_0f7a4_2 : decode cJ6_numberOfTrailingZeros_0f7a4 2 = .ok (.ixor, 1) := by decide +kernel
theorem dJ6_numberOfTrailingZeros_0f7a4_3 : decode cJ6_numberOfTrailingZeros_0f7a4 3 = .ok (.iload_n 0, 1) := by decide +kernel
theorem dJ6_numberOfTrailingZeros_0f7a4_4 : decode cJ6_numberOfTrailingZeros_0f7a4 4 = .ok (.iconst 1, 1) := by decide +kernel
theorem dJ6_numberOfTrailingZeros_0f7a4_5 : decode cJ6_numberOfTrailingZeros_0f7a4 5 = .ok (.isub, 1) := by decide +kernel
theorem dJ6_numberOfTrailingZeros_0f7a4_6 : decode cJ6_numberOfTrailingZeros_0f7a4 6 = .ok (.iand, 1) := by decide +kernel
theorem dJ6_numberOfTrailingZeros_0f7a4_7 : decode cJ6_numberOfTrailingZeros_0f7a4 7 = .ok (.istore_n 0, 1) := by decide +kernel
theorem dJ6_numberOfTrailingZeros_0f7a4_8 : decode cJ6_numberOfTrailingZeros_0f7a4 8 = .ok (.iload_n 0, 1) := by decide +kernel
theorem dJ6_numberOfTrailingZeros_0f7a4_9 : decode cJ6_numberOfTrailingZeros_0f7a4 9 = .ok (.ifCond .gt 8, 3) := by decide +kernel
theorem dJ6_numberOfTrailingZeros_0f7a4_12 : decode cJ6_numberOfTrailingZeros_0f7a4 12 = .ok (.iload_n 0, 1) := by decide +kernel
theorem dJ6_numberOfTrailingZeros_0f7a4_13 : decode cJ6_numberOfTrailingZeros_0f7a4 13 = .ok (.bipush 32, 2) := by decide +kernel
theorem dJ6_numberOfTrailingZeros_0f7a4_15 : decode cJ6_numberOfTrailingZeros_0f7a4 15 = .ok (.iand, 1) := by decide +kernel
theorem dJ6_numberOfTrailingZeros_0f7a4_16 : decode cJ6_numberOfTrailingZeros_0f7a4 16 = .ok (.ireturn, 1) := by decide +kernel
theorem dJ6_numberOfTrailingZeros_0f7a4_17 : decode cJ6_numberOfTrailingZeros_0f7a4 17 = .ok (.iconst 1, 1) := by decide +kernel
theorem dJ6_numberOfTrailingZeros_0f7a4_18 : decode cJ6_numberOfTrailingZeros_0f7a4 18 = .ok (.istore_n 1, 1) := by decide +kernel
theorem dJ6_numberOfTrailingZeros_0f7a4_19 : decode cJ6_numberOfTrailingZeros_0f7a4 19 = .ok (.iload_n 0, 1) := by decide +kernel
theorem dJ6_numberOfTrailingZeros_0f7a4_20 : decode cJ6_numberOfTrailingZeros_0f7a4 20 = .ok (.ldc_w 264, 3) := by decide +kernel
theorem dJ6_numberOfTrailingZeros_0f7a4_23 : decode cJ6_numberOfTrailingZeros_0f7a4 23 = .ok (.if_icmp .le 11, 3) := by decide +kernel
theorem dJ6_numberOfTrailingZeros_0f7a4_26 : decode cJ6_numberOfTrailingZeros_0f7a4 26 = .ok (.iinc 1 16, 3) := by decide +kernel
theorem dJ6_numberOfTrailingZeros_0f7a4_29 : decode cJ6_numberOfTrailingZeros_0f7a4 29 = .ok (.iload_n 0, 1) := by decide +kernel
theorem dJ6_numberOfTrailingZeros_0f7a4_30 : decode cJ6_numberOfTrailingZeros_0f7a4 30 = .ok (.bipush 16, 2) := by decide +kernel
theorem dJ6_numberOfTrailingZeros_0f7a4_32 : decode cJ6_numberOfTrailingZeros_0f7a4 32 = .ok (.iushr, 1) := by decide +kernel
theorem dJ6_numberOfTrailingZeros_0f7a4_33 : decode cJ6_numberOfTrailingZeros_0f7a4 33 = .ok (.istore_n 0, 1) := by decide +kernel
theorem dJ6_numberOfTrailingZeros_0f7a4_34 : decode cJ6_numberOfTrailingZeros_0f7a4 34 = .ok (.iload_n 0, 1) := by decide +kernel
theorem dJ6_numberOfTrailingZeros_0f7a4_35 : decode cJ6_numberOfTrailingZeros_0f7a4 35 = .ok (.sipush 256, 3) := by decide +kernel
theorem dJ6_numberOfTrailingZeros_0f7a4_38 : decode cJ6_numberOfTrailingZeros_0f7a4 38 = .ok (.if_icmp .le 11, 3) := by decide +kernel
theorem dJ6_numberOfTrailingZeros_0f7a4_41 : decode cJ6_numberOfTrailingZeros_0f7a4 41 = .ok (.iinc 1 8, 3) := by decide +kernel
theorem dJ6_numberOfTrailingZeros_0f7a4_44 : decode cJ6_numberOfTrailingZeros_0f7a4 44 = .ok (.iload_n 0, 1) := by decide +kernel
theorem dJ6_numberOfTrailingZeros_0f7a4_45 : decode cJ6_numberOfTrailingZeros_0f7a4 45 = .ok (.bipush 8, 2) := by decide +kernel
theorem dJ6_numberOfTrailingZeros_0f7a4_47 : decode cJ6_numberOfTrailingZeros_0f7a4 47 = .ok (.iushr, 1) := by decide +kernel
theorem dJ6_numberOfTrailingZeros_0f7a4_48 : decode cJ6_numberOfTrailingZeros_0f7a4 48 = .ok (.istore_n 0, 1) := by decide +kernel
theorem dJ6_numberOfTrailingZeros_0f7a4_49 : decode cJ6_numberOfTrailingZeros_0f7a4 49 = .ok (.iload_n 0, 1) := by decide +kernel
theorem dJ6_numberOfTrailingZeros_0f7a4_50 : decode cJ6_numberOfTrailingZeros_0f7a4 50 = .ok (.bipush 16, 2) := by decide +kernel
theorem dJ6_numberOfTrailingZeros_0f7a4_52 : decode cJ6_numberOfTrailingZeros_0f7a4 52 = .ok (.if_icmp .le 10, 3) := by decide +kernel
theorem dJ6_numberOfTrailingZeros_0f7a4_55 : decode cJ6_numberOfTrailingZeros_0f7a4 55 = .ok (.iinc 1 4, 3) := by decide +kernel
theorem dJ6_numberOfTrailingZeros_0f7a4_58 : decode cJ6_numberOfTrailingZeros_0f7a4 58 = .ok (.iload_n 0, 1) := by decide +kernel
theorem dJ6_numberOfTrailingZeros_0f7a4_59 : decode cJ6_numberOfTrailingZeros_0f7a4 59 = .ok (.iconst 4, 1) := by decide +kernel
theorem dJ6_numberOfTrailingZeros_0f7a4_60 : decode cJ6_numberOfTrailingZeros_0f7a4 60 = .ok (.iushr, 1) := by decide +kernel
theorem dJ6_numberOfTrailingZeros_0f7a4_61 : decode cJ6_numberOfTrailingZeros_0f7a4 61 = .ok (.istore_n 0, 1) := by decide +kernel
theorem dJ6_numberOfTrailingZeros_0f7a4_62 : decode cJ6_numberOfTrailingZeros_0f7a4 62 = .ok (.iload_n 0, 1) := by decide +kernel
theorem dJ6_numberOfTrailingZeros_0f7a4_63 : decode cJ6_numberOfTrailingZeros_0f7a4 63 = .ok (.iconst 4, 1) := by decide +kernel
theorem dJ6_numberOfTrailingZeros_0f7a4_64 : decode cJ6_numberOfTrailingZeros_0f7a4 64 = .ok (.if_icmp .le 10, 3) := by decide +kernel
theorem dJ6_numberOfTrailingZeros_0f7a4_67 : decode cJ6_numberOfTrailingZeros_0f7a4 67 = .ok (.iinc 1 2, 3) := by decide +kernel
theorem dJ6_numberOfTrailingZeros_0f7a4_70 : decode cJ6_numberOfTrailingZeros_0f7a4 70 = .ok (.iload_n 0, 1) := by decide +kernel
theorem dJ6_numberOfTrailingZeros_0f7a4_71 : decode cJ6_numberOfTrailingZeros_0f7a4 71 = .ok (.iconst 2, 1) := by decide +kernel
theorem dJ6_numberOfTrailingZeros_0f7a4_72 : decode cJ6_numberOfTrailingZeros_0f7a4 72 = .ok (.iushr, 1) := by decide +kernel
theorem dJ6_numberOfTrailingZeros_0f7a4_73 : decode cJ6_numberOfTrailingZeros_0f7a4 73 = .ok (.istore_n 0, 1) := by decide +kernel
theorem dJ6_numberOfTrailingZeros_0f7a4_74 : decode cJ6_numberOfTrailingZeros_0f7a4 74 = .ok (.iload_n 1, 1) := by decide +kernel
theorem dJ6_numberOfTrailingZeros_0f7a4_75 : decode cJ6_numberOfTrailingZeros_0f7a4 75 = .ok (.iload_n 0, 1) := by decide +kernel
theorem dJ6_numberOfTrailingZeros_0f7a4_76 : decode cJ6_numberOfTrailingZeros_0f7a4 76 = .ok (.iconst 1, 1) := by decide +kernel
theorem dJ6_numberOfTrailingZeros_0f7a4_77 : decode cJ6_numberOfTrailingZeros_0f7a4 77 = .ok (.iushr, 1) := by decide +kernel
theorem dJ6_numberOfTrailingZeros_0f7a4_78 : decode cJ6_numberOfTrailingZeros_0f7a4 78 = .ok (.iadd, 1) := by decide +kernel
theorem dJ6_numberOfTrailingZeros_0f7a4_79 : decode cJ6_numberOfTrailingZeros_0f7a4 79 = .ok (.ireturn, 1) := by decide +kernel
set_option maxRecDepth 20000 in
theorem ggJ13_numberOfTrailingZeros_95d88_J6_numberOfTrailingZeros_0f7a4 : GoodIn wsJ13_numberOfTrailingZeros_95d88 wsJ6_numberOfTrailingZeros_0f7a4 := goodIn_r _ [4, 5] rfl (by decide +kernel)
set_option maxRecDepth 20000 in
theorem gJ13_numberOfTrailingZeros_95d88_J6_numberOfTrailingZeros_0f7a4 : GoodIn wsJ13_numberOfTrailingZeros_95d88 (va_wsS RJ13 311 yJ6_numberOfTrailingZeros_0f7a4 wsJ6_numberOfTrailingZeros_0f7a4) := goodIn_app (goodIn_of _ (by decide +kernel)) ggJ13_numberOfTrailingZeros_95d88_J6_numberOfTrailingZeros_0f7a4
theorem dJ13_numberOfTrailingZeros_95d88_0 : decode cJ13_numberOfTrailingZeros_95d88 0 = .ok (.lload_n 0, 1) := by decide +kernel
theorem dJ13_numberOfTrailingZeros_95d88_1 : decode cJ13_numberOfTrailingZeros_95d88 1 = .ok (.l2i, 1) := by decide +kernel
theorem dJ13_numberOfTrailingZeros_95d88_2 : decode cJ13_numberOfTrailingZeros_95d88 2 = .ok (.istore_n 2, 1) := by decide +kernel
theorem dJ13_numberOfTrailingZeros_95d88_3 : decode cJ13_numberOfTrailingZeros_95d88 3 = .ok (.iload_n 2, 1) := by decide +kernel
theorem dJ13_numberOfTrailingZeros_95d88_4 : decode cJ13_numberOfTrailingZeros_95d88 4 = .ok (.ifCond .ne 17, 3) := by decide +kernel
theorem dJ13_numberOfTrailingZeros_95d88_7 : decode cJ13_numberOfTrailingZeros_95d88 7 = .ok (.bipush 32, 2) := by decide +kernel
theorem dJ13_numberOfTrailingZeros_95d88_9 : decode cJ13_numberOfTrailingZeros_95d88 9 = .ok (.lload_n 0, 1) := by decide +kernel
theorem dJ13_numberOfTrailingZeros_95d88_10 : decode cJ13_numberOfTrailingZeros_95d88 10 = .ok (.bipush 32, 2) := by decide +kernel
theorem dJ13_numberOfTrailingZeros_95d88_12 : decode cJ13_numberOfTrailingZeros_95d88 12 = .ok (.lushr, 1) := by decide +kernel
theorem dJ13_numberOfTrailingZeros_95d88_13 : decode cJ13_numberOfTrailingZeros_95d88 13 = .ok (.l2i, 1) := by decide +kernel
theorem dJ13_numberOfTrailingZeros_95d88_14 : decode cJ13_numberOfTrailingZeros_95d88 14 = .ok (.invokestatic 311, 3) := by decide +kernel
theorem dJ13_numberOfTrailingZeros_95d88_17 : decode cJ13_numberOfTrailingZeros_95d88 17 = .ok (.iadd, 1) := by decide +kernel
theorem dJ13_numberOfTrailingZeros_95d88_18 : decode cJ13_numberOfTrailingZeros_95d88 18 = .ok (.goto 7, 3) := by decide +kernel
theorem dJ13_numberOfTrailingZeros_95d88_21 : decode cJ13_numberOfTrailingZeros_95d88 21 = .ok (.iload_n 2, 1) := by decide +kernel
theorem dJ13_numberOfTrailingZeros_95d88_22 : decode cJ13_numberOfTrailingZeros_95d88 22 = .ok (.invokestatic 311, 3) := by decide +kernel
theorem dJ13_numberOfTrailingZeros_95d88_25 : decode cJ13_numberOfTrailingZeros_95d88 25 = .ok (.ireturn, 1) := by decide +kernel
theorem dJ13_bitCount_95d88_0 : decode cJ13_bitCount_95d88 0 = .ok (.lload_n 0, 1) := by decide +kernel
theorem dJ13_bitCount_95d88_1 : decode cJ13_bitCount_95d88 1 = .ok (.lload_n 0, 1) := by decide +kernel
theorem dJ13_bitCount_95d88_2 : decode cJ13_bitCount_95d88 2 = .ok (.iconst 1, 1) := by decide +kernel
theorem dJ13_bitCount_95d88_3 : decode cJ13_bitCount_95d88 3 = .ok (.lushr, 1) := by decide +kernel
theorem dJ13_bitCount_95d88_4 : decode cJ13_bitCount_95d88 4 = .ok (.ldc2_w 314, 3) := by decide +kernel
theorem dJ13_bitCount_95d88_7 : decode cJ13_bitCount_95d88 7 = .ok (.land, 1) := by decide +kernel
theorem dJ13_bitCount_95d88_8 : decode cJ13_bitCount_95d88 8 = .ok (.lsub, 1) := by decide +kernel
theorem dJ13_bitCount_95d88_9 : decode cJ13_bitCount_95d88 9 = .ok (.lstore_n 0, 1) := by decide +kernel
theorem dJ13_bitCount_95d88_10 : decode cJ13_bitCount_95d88 10 = .ok (.lload_n 0, 1) := by decide +kernel
theorem dJ13_bitCount_95d88_11 : decode cJ13_bitCount_95d88 11 = .ok (.ldc2_w 316, 3) := by decide +kernel
theorem dJ13_bitCount_95d88_14 : decode cJ13_bitCount_95d88 14 = .ok (.land, 1) := by decide +kernel
theorem dJ13_bitCount_95d88_15 : decode cJ13_bitCount_95d88 15 = .ok (.lload_n 0, 1) := by decide +kernel
theorem dJ13_bitCount_95d88_16 : decode cJ13_bitCount_95d88 16 = .ok (.iconst 2, 1) := by decide +kernel
theorem dJ13_bitCount_95d88_17 : decode cJ13_bitCount_95d88 17 = .ok (.lushr, 1) := by decide +kernel
theorem dJ13_bitCount_95d88_18 : decode cJ13_bitCount_95d88 18 = .ok (.ldc2_w 316, 3) := by decide +kernel
theorem dJ13_bitCount_95d88_21 : decode cJ13_bitCount_95d88 21 = .ok (.land, 1) := by decide +kernel
theorem dJ13_bitCount_95d88_22 : decode cJ13_bitCount_95d88 22 = .ok (.ladd, 1) := by decide +kernel
theorem dJ13_bitCount_95d88_23 : decode cJ13_bitCount_95d88 23 = .ok (.lstore_n 0, 1) := by decide +kernel
theorem dJ13_bitCount_95d88_24 : decode cJ13_bitCount_95d88 24 = .ok (.lload_n 0, 1) := by decide +kernel
theorem dJ13_bitCount_95d88_25 : decode cJ13_bitCount_95d88 25 = .ok (.lload_n 0, 1) := by decide +kernel
theorem dJ13_bitCount_95d88_26 : decode cJ13_bitCount_95d88 26 = .ok (.iconst 4, 1) := by decide +kernel
theorem dJ13_bitCount_95d88_27 : decode cJ13_bitCount_95d88 27 = .ok (.lushr, 1) := by decide +kernel
theorem dJ13_bitCount_95d88_28 : decode cJ13_bitCount_95d88 28 = .ok (.ladd, 1) := by decide +kernel
theorem dJ13_bitCount_95d88_29 : decode cJ13_bitCount_95d88 29 = .ok (.ldc2_w 318, 3) := by decide +kernel
theorem dJ13_bitCount_95d88_32 : decode cJ13_bitCount_95d88 32 = .ok (.land, 1) := by decide +kernel
theorem dJ13_bitCount_95d88_33 : decode cJ13_bitCount_95d88 33 = .ok (.lstore_n 0, 1) := by decide +kernel
theorem dJ13_bitCount_95d88_34 : decode cJ13_bitCount_95d88 34 = .ok (.lload_n 0, 1) := by decide +kernel
theorem dJ13_bitCount_95d88_35 : decode cJ13_bitCount_95d88 35 = .ok (.lload_n 0, 1) := by decide +kernel
theorem dJ13_bitCount_95d88_36 : decode cJ13_bitCount_95d88 36 = .ok (.bipush 8, 2) := by decide +kernel
theorem dJ13_bitCount_95d88_38 : decode cJ13_bitCount_95d88 38 = .ok (.lushr, 1) := by decide +kernel
theorem dJ13_bitCount_95d88_39 : decode cJ13_bitCount_95d88 39 = .ok (.ladd, 1) := by decide +kernel
theorem dJ13_bitCount_95d88_40 : decode cJ13_bitCount_95d88 40 = .ok (.lstore_n 0, 1) := by decide +kernel
theorem dJ13_bitCount_95d88_41 : decode cJ13_bitCount_95d88 41 = .ok (.lload_n 0, 1) := by decide +kernel
theorem dJ13_bitCount_95d88_42 : decode cJ13_bitCount_95d88 42 = .ok (.lload_n 0, 1) := by decide +kernel
theorem dJ13_bitCount_95d88_43 : decode cJ13_bitCount_95d88 43 = .ok (.bipush 16, 2) := by decide +kernel
theorem dJ13_bitCount_95d88_45 : decode cJ13_bitCount_95d88 45 = .ok (.lushr, 1) := by decide +kernel
theorem dJ13_bitCount_95d88_46 : decode cJ13_bitCount_95d88 46 = .ok (.ladd, 1) := by decide +kernel
theorem dJ13_bitCount_95d88_47 : decode cJ13_bitCount_95d88 47 = .ok (.lstore_n 0, 1) := by decide +kernel
theorem dJ13_bitCount_95d88_48 : decode cJ13_bitCount_95d88 48 = .ok (.lload_n 0, 1) := by decide +kernel
theorem dJ13_bitCount_95d88_49 : decode cJ13_bitCount_95d88 49 = .ok (.lload_n 0, 1) := by decide +kernel
theorem dJ13_bitCount_95d88_50 : decode cJ13_bitCount_95d88 50 = .ok (.bipush 32, 2) := by decide +kernel
theorem dJ13_bitCount_95d88_52 : decode cJ13_bitCount_95d88 52 = .ok (.lushr, 1) := by decide +kernel
theorem dJ13_bitCount_95d88_53 : decode cJ13_bitCount_95d88 53 = .ok (.ladd, 1) := by decide +kernel
theorem dJ13_bitCount_95d88_54 : decode cJ13_bitCount_95d88 54 = .ok (.lstore_n 0, 1) := by decide +kernel
theorem dJ13_bitCount_95d88_55 : decode cJ13_bitCount_95d88 55 = .ok (.lload_n 0, 1) := by decide +kernel
theorem dJ13_bitCount_95d88_56 : decode cJ13_bitCount_95d88 56 = .ok (.l2i, 1) := by decide +kernel
theorem dJ13_bitCount_95d88_57 : decode cJ13_bitCount_95d88 57 = .ok (.bipush 127, 2) := by decide +kernel
theorem dJ13_bitCount_95d88_59 : decode cJ13_bitCount_95d88 59 = .ok (.iand, 1) := by decide +kernel
theorem dJ13_bitCount_95d88_60 : decode cJ13_bitCount_95d88 60 = .ok (.ireturn, 1) := by decide +kernel
theorem dJ7_fill_d0a16_0 : decode cJ7_fill_d0a16 0 = .ok (.iconst 0, 1) := by decide +kernel
theorem dJ7_fill_d0a16_1 : decode cJ7_fill_d0a16 1 = .ok (.istore_n 3, 1) := by decide +kernel
theorem dJ7_fill_d0a16_2 : decode cJ7_fill_d0a16 2 = .ok (.aload_n 0, 1) := by decide +kernel
theorem dJ7_fill_d0a16_3 : decode cJ7_fill_d0a16 3 = .ok (.arraylength, 1) := by decide +kernel
theorem dJ7_fill_d0a16_4 : decode cJ7_fill_d0a16 4 = .ok (.istore 4, 2) := by decide +kernel
theorem dJ7_fill_d0a16_6 : decode cJ7_fill_d0a16 6 = .ok (.iload_n 3, 1) := by decide +kernel
theorem dJ7_fill_d0a16_7 : decode cJ7_fill_d0a16 7 = .ok (.iload 4, 2) := by decide +kernel
theorem dJ7_fill_d0a16_9 : decode cJ7_fill_d0a16 9 = .ok (.if_icmp .ge 13, 3) := by decide +kernel
theorem dJ7_fill_d0a16_12 : decode cJ7_fill_d0a16 12 = .ok (.aload_n 0, 1) := by decide +kernel
theorem dJ7_fill_d0a16_13 : decode cJ7_fill_d0a16 13 = .ok (.iload_n 3, 1) := by decide +kernel
theorem dJ7_fill_d0a16_14 : decode cJ7_fill_d0a16 14 = .ok (.lload_n 1, 1) := by decide +kernel
theorem dJ7_fill_d0a16_15 : decode cJ7_fill_d0a16 15 = .ok (.lastore, 1) := by decide +kernel
theorem dJ7_fill_d0a16_16 : decode cJ7_fill_d0a16 16 = .ok (.iinc 3 1, 3) := by decide +kernel
theorem dJ7_fill_d0a16_19 : decode cJ7_fill_d0a16 19 = .ok (.goto (-13), 3) := by decide +kernel
theorem dJ7_fill_d0a16_22 : decode cJ7_fill_d0a16 22 = .ok (.return_, 1) := by decide +kernel
theorem dJ7_copyOf_9075b_0 : decode cJ7_copyOf_9075b 0 = .ok (.iload_n 1, 1) := by decide +kernel
theorem dJ7_copyOf_9075b_1 : decode cJ7_copyOf_9075b 1 = .ok (.aload_n 0, 1) := by decide +kernel
theorem dJ7_copyOf_9075b_2 : decode cJ7_copyOf_9075b 2 = .ok (.arraylength, 1) := by decide +kernel
theorem dJ7_copyOf_9075b_3 : decode cJ7_copyOf_9075b 3 = .ok (.if_icmp .ne 11, 3) := by decide +kernel
theorem dJ7_copyOf_9075b_14 : decode cJ7_copyOf_9075b 14 = .ok (.iload_n 1, 1) := by decide +kernel
theorem dJ7_copyOf_9075b_15 : decode cJ7_copyOf_9075b 15 = .ok (.newarray .byte, 2) := by decide +kernel
theorem dJ7_copyOf_9075b_17 : decode cJ7_copyOf_9075b 17 = .ok (.astore_n 2, 1) := by decide +kernel
theorem dJ7_copyOf_9075b_18 : decode cJ7_copyOf_9075b 18 = .ok (.aload_n 0, 1) := by decide +kernel
theorem dJ7_copyOf_9075b_19 : decode cJ7_copyOf_9075b 19 = .ok (.iconst 0, 1) := by decide +kernel
theorem dJ7_copyOf_9075b_20 : decode cJ7_copyOf_9075b 20 = .ok (.aload_n 2, 1) := by decide +kernel
theorem dJ7_copyOf_9075b_21 : decode cJ7_copyOf_9075b 21 = .ok (.iconst 0, 1) := by decide +kernel
theorem dJ7_copyOf_9075b_22 : decode cJ7_copyOf_9075b 22 = .ok (.aload_n 0, 1) := by decide +kernel
theorem dJ7_copyOf_9075b_23 : decode cJ7_copyOf_9075b 23 = .ok (.arraylength, 1) := by decide +kernel
theorem dJ7_copyOf_9075b_24 : decode cJ7_copyOf_9075b 24 = .ok (.iload_n 1, 1) := by decide +kernel
theorem dJ7_copyOf_9075b_25 : decode cJ7_copyOf_9075b 25 = .ok (.invokestatic 304, 3) := by decide +kernel
theorem dJ7_copyOf_9075b_28 : decode cJ7_copyOf_9075b 28 = .ok (.invokestatic 150, 3) := by decide +kernel
theorem dJ7_copyOf_9075b_31 : decode cJ7_copyOf_9075b 31 = .ok (.aload_n 2, 1) := by decide +kernel
theorem dJ7_copyOf_9075b_32 : decode cJ7_copyOf_9075b 32 = .ok (.areturn, 1) := by decide +kernel
/-! the law's words by stretches -/
def faL : List (List Cond) → List Cond
  | [] => []
  | [a] => a
  | a :: b :: t => a ++ faL (b :: t)
theorem faL_mem {w : Cond} : ∀ {L : List (List Cond)} {c : List Cond}, c ∈ L → w ∈ c → w ∈ faL L
  | [], _, h, _ => by cases h
  | [a], c, h, hw => by
    rw [List.mem_singleton] at h
    rw [h] at hw; exact hw
  | a :: b :: t, c, h, hw => by
    show w ∈ a ++ faL (b :: t)
    rcases List.mem_cons.mp h with e | e
    · rw [e] at hw; exact List.mem_append_left _ hw
    · exact List.mem_append_right _ (faL_mem e hw)
noncomputable def chL : List (List Cond) := [wsL_law_r1, wsL_law_r2, wsL_law_r3, wsL_law_r4, wsL_law_r5, wsL_law_r6, wsL_law_r7, wsL_law_r8, wsL_law_r9, wsL_law_r10, wsL_law_r11, wsL_law_r12, wsL_law_r13, wsL_law_r14, wsL_law_r15, wsL_law_r16, wsL_law_r17, wsL_law_r18, wsL_law_r19, wsL_law_r20, wsL_law_r21, wsL_law_r22, wsL_law_r23, wsL_law_r24, wsL_law_r25, wsL_law_r26, wsL_law_r27, wsL_law_r28, wsL_law_r29, wsL_law_r30, wsL_law_r31, wsL_law_r32, wsL_law_r33, wsL_law_r34, wsL_law_r35, wsL_law_r36, wsL_law_r37]
theorem wsL_fa : wsL_law = faL chL ++ wsX60 ++ wsX70 ++ wsX20 ++ wsX30 ++ wsX00 ++ wsX40 ++ wsX10 ++ ([] : List Cond) := rfl
theorem chL_mem {w : Cond} {c : List Cond} (hc : c ∈ chL) (hw : w ∈ c) : w ∈ wsL_law := by
  rw [wsL_fa]
  exact List.mem_append_left _ (List.mem_append_left _ (List.mem_append_left _ (List.mem_append_left _ (List.mem_append_left _ (List.mem_append_left _ (List.mem_append_left _ (List.mem_append_left _ (faL_mem hc hw))))))))
theorem tlL_wsX60 : GoodIn wsL_law wsX60 := goodIn_sub (fun w hw => by rw [wsL_fa]; exact List.mem_append_left _ (List.mem_append_left _ (List.mem_append_left _ (List.mem_append_left _ (List.mem_append_left _ (List.mem_append_left _ (List.mem_append_left _ (List.mem_append_right _ (hw))))))))) (by decide +kernel)
theorem tlL_wsX70 : GoodIn wsL_law wsX70 := goodIn_sub (fun w hw => by rw [wsL_fa]; exact List.mem_append_left _ (List.mem_append_left _ (List.mem_append_left _ (List.mem_append_left _ (List.mem_append_left _ (List.mem_append_left _ (List.mem_append_right _ (hw)))))))) (by decide +kernel)
theorem tlL_wsX20 : GoodIn wsL_law wsX20 := goodIn_sub (fun w hw => by rw [wsL_fa]; exact List.mem_append_left _ (List.mem_append_left _ (List.mem_append_left _ (List.mem_append_left _ (List.mem_append_left _ (List.mem_append_right _ (hw))))))) (by decide +kernel)
theorem tlL_wsX30 : GoodIn wsL_law wsX30 := goodIn_sub (fun w hw => by rw [wsL_fa]; exact List.mem_append_left _ (List.mem_append_left _ (List.mem_append_left _ (List.mem_append_left _ (List.mem_append_right _ (hw)))))) (by decide +kernel)
theorem tlL_wsX00 : GoodIn wsL_law wsX00 := goodIn_sub (fun w hw => by rw [wsL_fa]; exact List.mem_append_left _ (List.mem_append_left _ (List.mem_append_left _ (List.mem_append_right _ (hw))))) (by decide +kernel)
theorem tlL_wsX40 : GoodIn wsL_law wsX40 := goodIn_sub (fun w hw => by rw [wsL_fa]; exact List.mem_append_left _ (List.mem_append_left _ (List.mem_append_right _ (hw)))) (by decide +kernel)
theorem tlL_wsX10 : GoodIn wsL_law wsX10 := goodIn_sub (fun w hw => by rw [wsL_fa]; exact List.mem_append_left _ (List.mem_append_right _ (hw))) (by decide +kernel)
theorem goodIn_c (ws : List Cond) (ps : List (Nat × Nat)) (hp : ws = ps.filterMap (fun p => (chL[p.1]?).bind (fun c => c[p.2]?))) (h : ws.all goodWord = true) : GoodIn wsL_law ws := by
  intro w hw
  have h1 := List.all_eq_true.mp h w hw
  rw [hp] at hw
  obtain ⟨p, -, hi⟩ := List.mem_filterMap.mp hw
  obtain ⟨c, hc, hi2⟩ := Option.bind_eq_some_iff.mp hi
  exact ⟨chL_mem (List.mem_of_getElem? hc) (List.mem_of_getElem? hi2), good_of_word h1⟩
set_option maxRecDepth 20000 in
theorem ggL_law_X6_init : GoodIn wsL_law wsX6_init := goodIn_ca (goodIn_ca (goodIn_ca (goodIn_ca (goodIn_ca (goodIn_ca (goodIn_c _ [(0, 9), (0, 10), (0, 11), (0, 12), (0, 13), (0, 14), (0, 15), (0, 16), (0, 17), (0, 18), (0, 19), (0, 20), (0, 21), (0, 22), (0, 23), (1, 0), (1, 1), (1, 2), (1, 3), (1, 4), (1, 5), (1, 6), (1, 7), (1, 8), (1, 9), (1, 10), (1, 11), (1, 12), (1, 13), (1, 14), (1, 15), (1, 16), (1, 17), (1, 18), (1, 19), (1, 20), (1, 21), (1, 22), (1, 23), (2, 0), (2, 1), (2, 2), (2, 3), (2, 4), (2, 5), (2, 6), (2, 7), (2, 8), (2, 9), (2, 10), (2, 11), (2, 12)] rfl (by decide +kernel)) tlL_wsX60) tlL_wsX20) tlL_wsX30) tlL_wsX00) tlL_wsX40) tlL_wsX10
set_option maxRecDepth 20000 in
theorem gL_law_X6_init : GoodIn wsL_law (wsX6_init) := ggL_law_X6_init
set_option maxRecDepth 20000 in
theorem ggL_law_X7_init : GoodIn wsL_law wsX7_init := goodIn_ca (goodIn_c _ [(2, 15), (2, 16), (0, 11), (0, 12), (2, 10), (2, 17), (2, 18), (2, 19), (2, 20), (2, 21), (2, 22), (2, 23), (3, 0), (3, 1), (3, 2), (3, 3), (3, 4), (3, 5)] rfl (by decide +kernel)) tlL_wsX70
set_option maxRecDepth 20000 in
theorem gL_law_X7_init : GoodIn wsL_law (wsX7_init) := ggL_law_X7_init
set_option maxRecDepth 20000 in
theorem ggL_law_X6_add : GoodIn wsL_law wsX6_add := goodIn_ca (goodIn_ca (goodIn_ca (goodIn_c _ [(3, 9), (0, 14), (3, 10), (3, 11), (0, 2), (3, 12), (3, 13), (3, 14), (3, 15), (3, 16), (3, 17), (3, 18), (3, 19), (3, 20), (3, 21), (3, 22), (0, 16), (3, 23), (4, 0), (4, 1), (4, 2), (4, 3), (1, 12), (4, 4), (4, 5), (4, 6), (4, 7), (4, 8), (4, 9), (4, 10), (4, 11), (4, 12), (4, 13), (4, 14), (4, 15), (4, 16), (4, 17), (4, 18), (4, 19), (4, 20), (4, 21), (1, 14), (4, 22), (1, 18), (4, 23), (5, 0), (5, 1), (5, 2), (5, 3), (5, 4), (5, 5), (2, 22), (5, 6), (5, 7), (5, 8), (5, 9), (5, 10), (5, 11), (5, 12), (5, 13), (5, 14), (5, 15), (5, 16), (5, 17), (5, 18), (5, 19), (5, 20), (5, 21), (5, 22), (5, 23), (6, 0), (6, 1), (6, 2), (6, 3), (6, 4), (6, 5), (6, 6), (6, 7), (6, 8), (6, 9), (6, 10), (6, 11), (6, 12), (6, 13)] rfl (by decide +kernel)) tlL_wsX60) tlL_wsX20) tlL_wsX10
set_option maxRecDepth 20000 in
theorem gL_law_X6_add : GoodIn wsL_law (wsV RL 13 RX6 yX6_add wsX6_add) := goodIn_app (goodIn_c _ [(3, 6), (3, 7), (3, 8), (0, 2)] rfl (by decide +kernel)) ggL_law_X6_add
set_option maxRecDepth 20000 in
theorem ggL_law_X7_add : GoodIn wsL_law wsX7_add := goodIn_ca (goodIn_c _ [(6, 17), (2, 17), (6, 18), (2, 20), (6, 19), (6, 20), (0, 5), (6, 21), (6, 22), (6, 23), (7, 0), (7, 1), (7, 2), (7, 3), (7, 4), (7, 5), (2, 18), (7, 6), (7, 7), (7, 8), (7, 9), (2, 23), (7, 10), (7, 11), (7, 12), (7, 13), (2, 19), (7, 14), (7, 15), (7, 16), (7, 17), (7, 18), (7, 19), (7, 20), (7, 21), (7, 22), (7, 23), (8, 0), (8, 1), (8, 2), (8, 3), (8, 4), (8, 5)] rfl (by decide +kernel)) tlL_wsX70
set_option maxRecDepth 20000 in
theorem gL_law_X7_add : GoodIn wsL_law (wsV RL 17 RX7 yX7_add wsX7_add) := goodIn_app (goodIn_c _ [(6, 14), (6, 15), (6, 16), (0, 5)] rfl (by decide +kernel)) ggL_law_X7_add
set_option maxRecDepth 20000 in
theorem ggL_law_X6_remove : GoodIn wsL_law wsX6_remove := goodIn_ca (goodIn_ca (goodIn_ca (goodIn_c _ [(8, 9), (0, 14), (3, 10), (3, 11), (0, 2), (3, 12), (3, 13), (3, 14), (3, 15), (3, 16), (3, 17), (3, 18), (3, 19), (3, 20), (3, 21), (3, 22), (0, 16), (3, 23), (4, 0), (4, 1), (4, 2), (4, 3), (1, 12), (4, 4), (4, 5), (4, 6), (4, 7), (4, 8), (4, 9), (4, 10), (4, 11), (4, 12), (4, 13), (4, 14), (4, 15), (4, 16), (4, 17), (4, 18), (4, 19), (4, 20), (4, 21), (1, 14), (4, 22), (1, 18), (4, 23), (5, 0), (5, 1), (5, 2), (5, 3), (5, 4), (5, 5), (2, 22), (5, 6), (5, 7), (5, 8), (5, 9), (5, 10), (5, 11), (5, 12), (5, 13), (5, 14), (5, 15), (5, 16), (5, 17), (5, 18), (5, 19), (5, 20), (5, 21), (5, 22), (5, 23), (6, 0), (6, 1), (6, 2), (6, 3), (6, 4), (6, 5), (6, 6), (6, 7), (6, 8), (6, 9), (6, 10), (6, 11), (6, 12), (6, 13)] rfl (by decide +kernel)) tlL_wsX60) tlL_wsX20) tlL_wsX10
set_option maxRecDepth 20000 in
theorem gL_law_X6_remove : GoodIn wsL_law (wsV RL 18 RX6 yX6_remove wsX6_remove) := goodIn_app (goodIn_c _ [(8, 6), (8, 7), (8, 8), (0, 2)] rfl (by decide +kernel)) ggL_law_X6_remove
set_option maxRecDepth 20000 in
theorem ggL_law_X7_remove : GoodIn wsL_law wsX7_remove := goodIn_ca (goodIn_c _ [(8, 13), (6, 18), (2, 20), (6, 19), (6, 20), (0, 5), (6, 21), (6, 22), (6, 23), (7, 0), (7, 1), (7, 2), (7, 3), (7, 4), (7, 5), (2, 17), (2, 18), (7, 6), (7, 7), (7, 8), (7, 9), (2, 23), (7, 18), (7, 19), (7, 20), (7, 21), (7, 22), (7, 23), (8, 0), (8, 1), (2, 19), (8, 2), (8, 3), (8, 4), (8, 5), (7, 14), (7, 15), (7, 16), (7, 17)] rfl (by decide +kernel)) tlL_wsX70
set_option maxRecDepth 20000 in
theorem gL_law_X7_remove : GoodIn wsL_law (wsV RL 21 RX7 yX7_remove wsX7_remove) := goodIn_app (goodIn_c _ [(8, 10), (8, 11), (8, 12), (0, 5)] rfl (by decide +kernel)) ggL_law_X7_remove
set_option maxRecDepth 20000 in
theorem ggL_law_X6_range : GoodIn wsL_law wsX6_range := goodIn_ca (goodIn_ca (goodIn_ca (goodIn_c _ [(8, 17), (0, 14), (3, 10), (3, 11), (0, 2), (3, 12), (8, 18), (8, 19), (8, 20), (3, 19), (3, 20), (3, 21), (3, 22), (0, 16), (3, 23), (4, 0), (4, 1), (4, 2), (4, 3), (1, 12), (4, 4), (4, 5), (4, 6), (4, 7), (4, 8), (4, 9), (4, 10), (4, 11), (4, 12), (4, 13), (4, 14), (4, 15), (4, 16), (4, 17), (4, 18), (4, 19), (4, 20), (4, 21), (1, 14), (4, 22), (1, 18), (4, 23), (5, 0), (5, 1), (5, 2), (5, 3), (5, 4), (5, 5), (2, 22), (5, 6), (5, 7), (5, 8), (5, 9), (5, 10), (5, 11), (5, 12), (5, 13), (5, 14), (5, 15), (5, 16), (5, 17), (5, 18), (5, 19), (5, 20), (5, 21), (5, 22), (5, 23), (6, 0), (6, 1), (6, 2), (6, 3), (6, 4), (6, 5), (6, 6), (6, 7), (6, 8), (6, 9), (6, 10), (6, 11), (6, 12), (6, 13), (8, 21), (8, 22), (8, 23), (9, 0)] rfl (by decide +kernel)) tlL_wsX60) tlL_wsX20) tlL_wsX10
set_option maxRecDepth 20000 in
theorem gL_law_X6_range : GoodIn wsL_law (wsV RL 22 RX6 yX6_range wsX6_range) := goodIn_app (goodIn_c _ [(8, 14), (8, 15), (8, 16), (0, 2)] rfl (by decide +kernel)) ggL_law_X6_range
set_option maxRecDepth 20000 in
theorem ggL_law_X7_range : GoodIn wsL_law wsX7_range := goodIn_ca (goodIn_c _ [(9, 4), (9, 5), (6, 19), (6, 20), (0, 5), (6, 21), (6, 22), (6, 23), (7, 0), (7, 1), (9, 6), (9, 7), (9, 8), (9, 9), (9, 10), (9, 11), (9, 12), (9, 13), (2, 17), (2, 20), (7, 2), (7, 3), (7, 4), (7, 5), (2, 18), (9, 14), (9, 15), (9, 16), (9, 17), (7, 10), (7, 11), (7, 12), (7, 13), (2, 19), (2, 23), (7, 14), (7, 15), (7, 16), (7, 17), (7, 6), (7, 7), (7, 8), (7, 9), (7, 18), (7, 19), (7, 20), (7, 21), (7, 22), (7, 23), (8, 0), (8, 1), (8, 2), (8, 3), (8, 4), (8, 5)] rfl (by decide +kernel)) tlL_wsX70
set_option maxRecDepth 20000 in
theorem gL_law_X7_range : GoodIn wsL_law (wsV RL 26 RX7 yX7_range wsX7_range) := goodIn_app (goodIn_c _ [(9, 1), (9, 2), (9, 3), (0, 5)] rfl (by decide +kernel)) ggL_law_X7_range
set_option maxRecDepth 20000 in
theorem ggL_law_X6_steps : GoodIn wsL_law wsX6_steps := goodIn_ca (goodIn_ca (goodIn_ca (goodIn_c _ [(9, 21), (0, 14), (3, 10), (3, 11), (0, 2), (3, 12), (8, 18), (8, 19), (8, 20), (3, 19), (9, 22), (9, 23), (10, 0), (0, 16), (10, 1), (4, 15), (4, 16), (4, 17), (4, 18), (1, 12), (4, 8), (4, 4), (4, 5), (4, 6), (4, 7), (4, 9), (4, 10), (4, 11), (4, 12), (4, 13), (4, 14), (4, 19), (4, 20), (4, 21), (1, 14), (4, 22), (1, 18), (4, 23), (5, 0), (5, 1), (5, 2), (5, 3), (5, 4), (5, 5), (2, 22), (5, 6), (5, 7), (5, 8), (5, 9), (10, 2), (10, 3), (10, 4), (10, 5), (10, 6), (10, 7), (10, 8), (10, 9), (10, 10), (6, 1), (6, 2), (6, 3), (6, 4), (6, 5), (6, 6), (6, 7), (6, 8), (6, 9), (6, 10), (6, 11), (6, 12), (6, 13), (8, 21), (8, 22), (8, 23), (9, 0)] rfl (by decide +kernel)) tlL_wsX60) tlL_wsX20) tlL_wsX10
set_option maxRecDepth 20000 in
theorem gL_law_X6_steps : GoodIn wsL_law (wsV RL 27 RX6 yX6_steps wsX6_steps) := goodIn_app (goodIn_c _ [(9, 18), (9, 19), (9, 20), (0, 2)] rfl (by decide +kernel)) ggL_law_X6_steps
set_option maxRecDepth 20000 in
theorem ggL_law_X7_steps : GoodIn wsL_law wsX7_steps := goodIn_ca (goodIn_c _ [(10, 14), (9, 9), (6, 18), (6, 19), (6, 20), (0, 5), (6, 21), (6, 22), (6, 23), (7, 0), (7, 1), (9, 6), (9, 7), (9, 8), (9, 10), (9, 11), (9, 12), (9, 13), (2, 17), (2, 20), (7, 2), (7, 3), (7, 4), (7, 5), (2, 18), (9, 14), (9, 15), (9, 16), (9, 17), (7, 10), (7, 11), (7, 12), (7, 13), (2, 19), (2, 23), (7, 14), (7, 15), (7, 16), (7, 17), (7, 6), (7, 7), (7, 8), (7, 9), (7, 18), (7, 19), (7, 20), (7, 21), (7, 22), (7, 23), (8, 0), (8, 1), (8, 2), (8, 3), (8, 4), (8, 5)] rfl (by decide +kernel)) tlL_wsX70
set_option maxRecDepth 20000 in
theorem gL_law_X7_steps : GoodIn wsL_law (wsV RL 31 RX7 yX7_steps wsX7_steps) := goodIn_app (goodIn_c _ [(10, 11), (10, 12), (10, 13), (0, 5)] rfl (by decide +kernel)) ggL_law_X7_steps
set_option maxRecDepth 20000 in
theorem ggL_law_X6_clear : GoodIn wsL_law wsX6_clear := goodIn_ca (goodIn_ca (goodIn_ca (goodIn_c _ [(10, 18), (0, 14), (10, 19), (3, 10), (3, 11), (0, 2), (3, 12), (8, 21), (8, 22), (8, 23), (0, 16), (9, 0), (4, 8), (1, 12), (6, 5)] rfl (by decide +kernel)) tlL_wsX60) tlL_wsX20) tlL_wsX10
set_option maxRecDepth 20000 in
theorem gL_law_X6_clear : GoodIn wsL_law (wsV RL 32 RX6 yX6_clear wsX6_clear) := goodIn_app (goodIn_c _ [(10, 15), (10, 16), (10, 17), (0, 2)] rfl (by decide +kernel)) ggL_law_X6_clear
set_option maxRecDepth 20000 in
theorem ggL_law_X7_clear : GoodIn wsL_law wsX7_clear := goodIn_ca (goodIn_c _ [(10, 23), (2, 17), (6, 19), (6, 20), (0, 5), (6, 21), (6, 22), (6, 23), (7, 0), (7, 1), (9, 14), (9, 15), (9, 16), (9, 17), (2, 20)] rfl (by decide +kernel)) tlL_wsX70
set_option maxRecDepth 20000 in
theorem gL_law_X7_clear : GoodIn wsL_law (wsV RL 36 RX7 yX7_clear wsX7_clear) := goodIn_app (goodIn_c _ [(10, 20), (10, 21), (10, 22), (0, 5)] rfl (by decide +kernel)) ggL_law_X7_clear
set_option maxRecDepth 20000 in
theorem ggL_law_X6_join : GoodIn wsL_law wsX6_join := goodIn_ca (goodIn_ca (goodIn_ca (goodIn_c _ [(11, 3), (0, 17), (0, 14), (3, 10), (3, 11), (0, 2), (3, 12), (11, 4), (11, 5), (11, 6), (11, 7), (1, 6), (11, 8), (11, 9), (11, 10), (0, 16), (11, 11), (4, 8), (4, 14), (1, 12), (6, 5), (4, 10), (4, 11), (4, 12), (4, 13), (4, 9), (11, 12), (11, 13), (11, 14), (1, 14), (11, 15), (1, 18), (11, 16), (11, 17), (11, 18), (11, 19), (4, 23), (5, 0), (5, 1), (5, 2), (5, 3), (5, 4), (5, 5), (2, 22), (11, 20), (11, 21), (11, 22), (11, 23), (12, 0), (12, 1), (12, 2), (5, 14), (5, 18), (5, 19), (5, 20), (5, 21), (5, 22), (5, 23), (6, 0), (12, 3), (12, 4), (12, 5), (12, 6), (12, 7), (12, 8), (12, 9), (12, 10), (12, 11), (6, 7), (6, 8), (6, 9), (12, 12), (12, 13), (12, 14), (12, 15), (8, 21), (8, 22), (8, 23), (9, 0)] rfl (by decide +kernel)) tlL_wsX60) tlL_wsX20) tlL_wsX10
set_option maxRecDepth 20000 in
theorem gL_law_X6_join : GoodIn wsL_law (wsV RL 37 RX6 yX6_join wsX6_join) := goodIn_app (goodIn_c _ [(11, 0), (11, 1), (11, 2), (0, 2)] rfl (by decide +kernel)) ggL_law_X6_join
set_option maxRecDepth 20000 in
theorem ggL_law_X7_join : GoodIn wsL_law wsX7_join := goodIn_ca (goodIn_c _ [(12, 19), (12, 20), (3, 0), (6, 19), (6, 20), (0, 5), (6, 21), (6, 22), (6, 23), (7, 0), (7, 1), (12, 21), (12, 22), (12, 23), (13, 0), (2, 17), (2, 18), (13, 1), (13, 2), (13, 3), (13, 4), (13, 5), (2, 23), (2, 20), (2, 19), (13, 6), (13, 7), (13, 8), (13, 9), (7, 10), (7, 11), (7, 12), (7, 13), (7, 14), (7, 15), (7, 16), (7, 17), (13, 10), (13, 11), (13, 12), (7, 22), (7, 23), (8, 0), (8, 1), (8, 2), (8, 3), (8, 4), (8, 5), (13, 13), (13, 14), (13, 15), (13, 16), (13, 17), (13, 18), (13, 19), (13, 20), (9, 14), (9, 15), (9, 16), (9, 17)] rfl (by decide +kernel)) tlL_wsX70
set_option maxRecDepth 20000 in
theorem gL_law_X7_join : GoodIn wsL_law (wsV RL 40 RX7 yX7_join wsX7_join) := goodIn_app (goodIn_c _ [(12, 16), (12, 17), (12, 18), (0, 5)] rfl (by decide +kernel)) ggL_law_X7_join
set_option maxRecDepth 20000 in
theorem ggL_law_X6_shrink : GoodIn wsL_law wsX6_shrink := goodIn_ca (goodIn_ca (goodIn_ca (goodIn_c _ [(14, 0), (0, 14), (3, 10), (3, 11), (0, 2), (3, 12), (11, 4), (11, 5), (11, 6), (11, 7), (1, 6), (14, 1), (14, 2), (14, 3), (0, 16), (14, 4), (4, 8), (1, 12), (14, 5), (14, 6), (14, 7), (1, 14), (14, 8), (5, 1), (5, 0), (14, 9), (14, 10), (14, 11), (14, 12), (1, 18), (5, 14), (5, 18), (5, 19), (5, 20), (5, 21), (5, 22), (5, 23), (6, 0), (12, 11), (6, 7), (6, 8), (6, 9), (14, 13), (14, 14), (14, 15), (14, 16), (14, 17)] rfl (by decide +kernel)) tlL_wsX60) tlL_wsX20) tlL_wsX10
set_option maxRecDepth 20000 in
theorem gL_law_X6_shrink : GoodIn wsL_law (wsV RL 41 RX6 yX6_shrink wsX6_shrink) := goodIn_app (goodIn_c _ [(13, 21), (13, 22), (13, 23), (0, 2)] rfl (by decide +kernel)) ggL_law_X6_shrink
set_option maxRecDepth 20000 in
theorem ggL_law_X7_shrink : GoodIn wsL_law wsX7_shrink := goodIn_ca (goodIn_c _ [(14, 21), (3, 0), (2, 17), (2, 20), (2, 19), (6, 19), (6, 20), (0, 5), (6, 21), (6, 22), (6, 23), (7, 0), (7, 1), (14, 22), (14, 23), (15, 0), (15, 1), (2, 23), (13, 9), (13, 10), (13, 11), (13, 12), (8, 2), (8, 3), (8, 4), (8, 5)] rfl (by decide +kernel)) tlL_wsX70
set_option maxRecDepth 20000 in
theorem gL_law_X7_shrink : GoodIn wsL_law (wsV RL 44 RX7 yX7_shrink wsX7_shrink) := goodIn_app (goodIn_c _ [(14, 18), (14, 19), (14, 20), (0, 5)] rfl (by decide +kernel)) ggL_law_X7_shrink
set_option maxRecDepth 20000 in
theorem ggL_law_X6_formula : GoodIn wsL_law wsX6_formula := goodIn_ca (goodIn_ca (goodIn_ca (goodIn_ca (goodIn_c _ [(15, 5), (0, 21), (0, 14), (0, 17), (15, 6), (3, 10), (3, 11), (0, 2), (3, 12), (15, 7), (15, 8), (0, 20), (15, 9), (15, 10), (15, 11), (15, 12), (15, 13), (15, 14), (15, 15), (11, 4), (11, 5), (11, 6), (11, 7), (1, 6), (15, 16), (15, 17), (15, 18), (15, 19), (15, 20), (2, 0), (15, 21), (15, 22), (15, 23), (16, 0), (16, 1), (11, 9), (11, 10), (0, 16), (11, 11), (4, 8), (4, 14), (1, 12), (6, 5), (4, 10), (4, 11), (4, 12), (4, 13), (4, 9), (11, 12), (11, 13), (11, 14), (1, 14), (11, 15), (1, 18), (11, 16), (11, 17), (11, 18), (11, 19), (4, 23), (5, 0), (5, 1), (5, 2), (5, 3), (5, 4), (5, 5), (2, 22), (11, 20), (11, 21), (11, 22), (11, 23), (12, 0), (12, 1), (12, 2), (5, 14), (5, 18), (5, 19), (5, 20), (5, 21), (5, 22), (5, 23), (6, 0), (12, 3), (12, 4), (12, 5), (12, 6), (12, 7), (12, 8), (12, 9), (12, 10), (12, 11), (6, 7), (6, 8), (6, 9), (16, 2), (12, 13), (12, 14), (12, 15), (16, 3), (16, 4), (16, 5), (16, 6), (16, 7), (16, 8), (3, 21), (3, 22), (3, 23), (4, 0), (4, 1), (4, 2), (4, 3), (4, 4), (4, 5), (4, 6), (4, 7), (4, 15), (4, 16), (4, 17), (4, 18), (4, 19), (4, 20), (4, 21), (4, 22), (5, 6), (5, 7), (5, 8), (5, 9), (5, 10), (5, 11), (5, 12), (5, 13), (5, 15), (5, 16), (5, 17), (6, 1), (6, 2), (6, 3), (6, 4), (6, 6), (6, 10), (6, 11), (6, 12), (6, 13), (16, 9), (16, 10), (16, 11), (16, 12), (12, 12), (8, 21), (8, 22), (8, 23), (9, 0)] rfl (by decide +kernel)) tlL_wsX60) tlL_wsX30) tlL_wsX20) tlL_wsX10
set_option maxRecDepth 20000 in
theorem gL_law_X6_formula : GoodIn wsL_law (wsV RL 47 RX6 yX6_formula wsX6_formula) := goodIn_app (goodIn_c _ [(15, 2), (15, 3), (15, 4), (0, 2)] rfl (by decide +kernel)) ggL_law_X6_formula
set_option maxRecDepth 20000 in
theorem ggL_law_X7_formula : GoodIn wsL_law wsX7_formula := goodIn_ca (goodIn_c _ [(16, 16), (16, 17), (3, 0), (16, 18), (16, 19), (16, 20), (6, 19), (6, 20), (0, 5), (6, 21), (6, 22), (6, 23), (7, 0), (7, 1), (16, 21), (16, 22), (16, 23), (12, 21), (12, 22), (12, 23), (13, 0), (2, 17), (2, 18), (13, 1), (13, 2), (13, 3), (13, 4), (13, 5), (2, 23), (2, 20), (2, 19), (13, 6), (13, 7), (13, 8), (13, 9), (7, 10), (7, 11), (7, 12), (7, 13), (7, 14), (7, 15), (7, 16), (7, 17), (13, 10), (13, 11), (13, 12), (7, 22), (7, 23), (8, 0), (8, 1), (8, 2), (8, 3), (8, 4), (8, 5), (13, 13), (13, 14), (13, 15), (13, 16), (13, 17), (13, 18), (13, 19), (13, 20), (17, 0), (17, 1), (17, 2), (17, 3), (9, 14), (9, 15), (9, 16), (9, 17)] rfl (by decide +kernel)) tlL_wsX70
set_option maxRecDepth 20000 in
theorem gL_law_X7_formula : GoodIn wsL_law (wsV RL 51 RX7 yX7_formula wsX7_formula) := goodIn_app (goodIn_c _ [(16, 13), (16, 14), (16, 15), (0, 5)] rfl (by decide +kernel)) ggL_law_X7_formula
set_option maxRecDepth 20000 in
theorem ggL_law_X6_has : GoodIn wsL_law wsX6_has := goodIn_ca (goodIn_ca (goodIn_ca (goodIn_c _ [(17, 7), (0, 14), (3, 10), (3, 11), (0, 2), (3, 12), (3, 13), (3, 14), (3, 15), (17, 8), (4, 1), (4, 2), (0, 16), (4, 3), (1, 12), (4, 4), (4, 5), (4, 6), (4, 7), (4, 8), (4, 9), (4, 10), (4, 11), (4, 12), (4, 13), (4, 14), (3, 16), (3, 17), (3, 18), (3, 19), (17, 9), (10, 8), (10, 9), (1, 14), (10, 10), (1, 18)] rfl (by decide +kernel)) tlL_wsX60) tlL_wsX20) tlL_wsX10
set_option maxRecDepth 20000 in
theorem gL_law_X6_has : GoodIn wsL_law (wsV RL 52 RX6 yX6_has wsX6_has) := goodIn_app (goodIn_c _ [(17, 4), (17, 5), (17, 6), (0, 2)] rfl (by decide +kernel)) ggL_law_X6_has
set_option maxRecDepth 20000 in
theorem ggL_law_X7_has : GoodIn wsL_law wsX7_has := goodIn_ca (goodIn_c _ [(17, 13), (6, 18), (6, 19), (6, 20), (0, 5), (6, 21), (6, 22), (6, 23), (7, 0), (7, 1), (7, 2), (7, 3), (7, 4), (7, 5), (2, 17), (2, 18), (7, 6), (7, 7), (7, 8), (7, 9), (2, 23)] rfl (by decide +kernel)) tlL_wsX70
set_option maxRecDepth 20000 in
theorem gL_law_X7_has : GoodIn wsL_law (wsV RL 55 RX7 yX7_has wsX7_has) := goodIn_app (goodIn_c _ [(17, 10), (17, 11), (17, 12), (0, 5)] rfl (by decide +kernel)) ggL_law_X7_has
set_option maxRecDepth 20000 in
theorem ggL_law_X6_rank : GoodIn wsL_law wsX6_rank := goodIn_ca (goodIn_ca (goodIn_ca (goodIn_c _ [(17, 17), (0, 14), (3, 10), (3, 11), (0, 2), (3, 12), (3, 13), (3, 14), (3, 15), (3, 16), (3, 17), (3, 18), (3, 19), (17, 18), (17, 19), (17, 20), (0, 16), (17, 21), (4, 8), (1, 12), (4, 9), (6, 5), (17, 22), (17, 23), (18, 0), (1, 14), (18, 1), (1, 18), (5, 15), (5, 16), (5, 17), (5, 14), (5, 18), (5, 19), (5, 20), (5, 21), (5, 22), (5, 23), (6, 0)] rfl (by decide +kernel)) tlL_wsX60) tlL_wsX20) tlL_wsX10
set_option maxRecDepth 20000 in
theorem gL_law_X6_rank : GoodIn wsL_law (wsV RL 56 RX6 yX6_rank wsX6_rank) := goodIn_app (goodIn_c _ [(17, 14), (17, 15), (17, 16), (0, 2)] rfl (by decide +kernel)) ggL_law_X6_rank
set_option maxRecDepth 20000 in
theorem ggL_law_X7_rank : GoodIn wsL_law wsX7_rank := goodIn_ca (goodIn_c _ [(18, 5), (6, 18), (2, 17), (2, 18), (2, 20), (2, 23), (6, 19), (6, 20), (0, 5), (6, 21), (6, 22), (6, 23), (7, 0), (7, 1), (13, 10), (13, 11), (13, 12), (7, 6), (7, 7), (7, 8), (7, 9)] rfl (by decide +kernel)) tlL_wsX70
set_option maxRecDepth 20000 in
theorem gL_law_X7_rank : GoodIn wsL_law (wsV RL 59 RX7 yX7_rank wsX7_rank) := goodIn_app (goodIn_c _ [(18, 2), (18, 3), (18, 4), (0, 5)] rfl (by decide +kernel)) ggL_law_X7_rank
set_option maxRecDepth 20000 in
theorem ggL_law_X6_select : GoodIn wsL_law wsX6_select := goodIn_ca (goodIn_ca (goodIn_ca (goodIn_c _ [(18, 9), (18, 10), (0, 14), (3, 10), (3, 11), (0, 2), (3, 12), (18, 11), (18, 12), (18, 13), (0, 16), (18, 14), (4, 8), (1, 12), (6, 5), (4, 9), (18, 15), (18, 16), (18, 17), (18, 18), (1, 14), (18, 19), (1, 18), (5, 18), (5, 19), (5, 20), (5, 21), (5, 22), (5, 23), (6, 0), (18, 20), (18, 21), (18, 22), (18, 23), (19, 0), (19, 1), (19, 2), (19, 3), (19, 4), (19, 5), (19, 6)] rfl (by decide +kernel)) tlL_wsX60) tlL_wsX20) tlL_wsX10
set_option maxRecDepth 20000 in
theorem gL_law_X6_select : GoodIn wsL_law (wsV RL 60 RX6 yX6_select wsX6_select) := goodIn_app (goodIn_c _ [(18, 6), (18, 7), (18, 8), (0, 2)] rfl (by decide +kernel)) ggL_law_X6_select
set_option maxRecDepth 20000 in
theorem ggL_law_X7_select : GoodIn wsL_law wsX7_select := goodIn_ca (goodIn_c _ [(19, 10), (19, 11), (13, 9), (2, 17), (2, 20), (2, 23), (6, 19), (6, 20), (0, 5), (6, 21), (6, 22), (6, 23), (7, 0), (7, 1), (13, 10), (13, 11), (13, 12), (7, 6), (7, 7), (7, 8), (7, 9), (19, 12), (19, 13), (19, 14), (19, 15), (19, 16), (2, 18)] rfl (by decide +kernel)) tlL_wsX70
set_option maxRecDepth 20000 in
theorem gL_law_X7_select : GoodIn wsL_law (wsV RL 64 RX7 yX7_select wsX7_select) := goodIn_app (goodIn_c _ [(19, 7), (19, 8), (19, 9), (0, 5)] rfl (by decide +kernel)) ggL_law_X7_select
set_option maxRecDepth 20000 in
theorem ggL_law_X6_next : GoodIn wsL_law wsX6_next := goodIn_ca (goodIn_ca (goodIn_ca (goodIn_c _ [(19, 20), (18, 10), (0, 14), (3, 10), (3, 11), (0, 2), (3, 12), (3, 13), (3, 14), (3, 15), (3, 16), (3, 17), (3, 18), (3, 19), (19, 21), (19, 22), (19, 23), (0, 16), (20, 0), (4, 8), (1, 12), (4, 9), (4, 14), (18, 15), (4, 4), (4, 5), (4, 6), (4, 7), (20, 1), (20, 2), (20, 3), (1, 14), (20, 4), (20, 5), (20, 6), (20, 7), (20, 8), (1, 18), (5, 14), (20, 9), (18, 20), (18, 21), (5, 20), (18, 22), (18, 23), (19, 0), (19, 1), (19, 2), (19, 3), (19, 4), (19, 5), (19, 6)] rfl (by decide +kernel)) tlL_wsX60) tlL_wsX20) tlL_wsX10
set_option maxRecDepth 20000 in
theorem gL_law_X6_next : GoodIn wsL_law (wsV RL 65 RX6 yX6_next wsX6_next) := goodIn_app (goodIn_c _ [(19, 17), (19, 18), (19, 19), (0, 2)] rfl (by decide +kernel)) ggL_law_X6_next
set_option maxRecDepth 20000 in
theorem ggL_law_X7_next : GoodIn wsL_law wsX7_next := goodIn_ca (goodIn_c _ [(20, 13), (19, 11), (2, 17), (2, 18), (13, 1), (6, 18), (13, 9), (6, 19), (6, 20), (0, 5), (6, 21), (6, 22), (6, 23), (7, 0), (7, 1), (7, 6), (7, 7), (7, 8), (7, 9), (2, 23), (19, 12), (19, 13), (19, 14), (19, 15), (19, 16)] rfl (by decide +kernel)) tlL_wsX70
set_option maxRecDepth 20000 in
theorem gL_law_X7_next : GoodIn wsL_law (wsV RL 68 RX7 yX7_next wsX7_next) := goodIn_app (goodIn_c _ [(20, 10), (20, 11), (20, 12), (0, 5)] rfl (by decide +kernel)) ggL_law_X7_next
set_option maxRecDepth 20000 in
theorem ggL_law_X6_count : GoodIn wsL_law wsX6_count := goodIn_ca (goodIn_ca (goodIn_ca (goodIn_c _ [(20, 17), (0, 14), (10, 19), (3, 10), (3, 11), (0, 2), (3, 12), (8, 21), (8, 22), (8, 23), (0, 16), (9, 0), (4, 8), (1, 12), (6, 5), (14, 13), (14, 14), (14, 15), (14, 16), (14, 17)] rfl (by decide +kernel)) tlL_wsX60) tlL_wsX20) tlL_wsX10
set_option maxRecDepth 20000 in
theorem gL_law_X6_count : GoodIn wsL_law (wsV RL 69 RX6 yX6_count wsX6_count) := goodIn_app (goodIn_c _ [(20, 14), (20, 15), (20, 16), (0, 2)] rfl (by decide +kernel)) ggL_law_X6_count
set_option maxRecDepth 20000 in
theorem ggL_law_X7_count : GoodIn wsL_law wsX7_count := goodIn_ca (goodIn_c _ [(20, 21), (20, 22), (2, 17), (2, 19), (6, 19), (6, 20), (0, 5), (6, 21), (6, 22), (6, 23), (7, 0), (7, 1), (9, 14), (9, 15), (9, 16), (9, 17), (2, 20)] rfl (by decide +kernel)) tlL_wsX70
set_option maxRecDepth 20000 in
theorem gL_law_X7_count : GoodIn wsL_law (wsV RL 72 RX7 yX7_count wsX7_count) := goodIn_app (goodIn_c _ [(20, 18), (20, 19), (20, 20), (0, 5)] rfl (by decide +kernel)) ggL_law_X7_count
set_option maxRecDepth 20000 in
theorem ggL_law_X6_container : GoodIn wsL_law wsX6_container := goodIn_ca (goodIn_ca (goodIn_ca (goodIn_c _ [(21, 2), (0, 14), (10, 19), (21, 3), (21, 4), (21, 5), (21, 6), (3, 10), (3, 11), (0, 2), (3, 12), (21, 7), (14, 10), (14, 11), (1, 14), (14, 12), (1, 18), (5, 14), (5, 18), (5, 19), (5, 20), (5, 21), (5, 22), (5, 23), (6, 0)] rfl (by decide +kernel)) tlL_wsX60) tlL_wsX20) tlL_wsX10
set_option maxRecDepth 20000 in
theorem gL_law_X6_container : GoodIn wsL_law (wsV RL 73 RX6 yX6_container wsX6_container) := goodIn_app (goodIn_c _ [(20, 23), (21, 0), (21, 1), (0, 2)] rfl (by decide +kernel)) ggL_law_X6_container
set_option maxRecDepth 20000 in
theorem ggL_law_X7_container : GoodIn wsL_law wsX7_container := goodIn_ca (goodIn_c _ [(21, 11), (2, 17), (12, 20), (2, 18), (2, 19), (2, 20), (6, 19), (6, 20), (0, 5), (6, 21), (6, 22), (6, 23), (7, 0), (7, 1), (14, 22), (14, 23), (15, 0), (15, 1), (2, 23), (13, 9), (13, 10), (13, 11), (13, 12)] rfl (by decide +kernel)) tlL_wsX70
set_option maxRecDepth 20000 in
theorem gL_law_X7_container : GoodIn wsL_law (wsV RL 77 RX7 yX7_container wsX7_container) := goodIn_app (goodIn_c _ [(21, 8), (21, 9), (21, 10), (0, 5)] rfl (by decide +kernel)) ggL_law_X7_container
set_option maxRecDepth 20000 in
theorem ggL_law_X6_compare : GoodIn wsL_law wsX6_compare := goodIn_ca (goodIn_ca (goodIn_ca (goodIn_c _ [(21, 15), (0, 14), (3, 10), (3, 11), (0, 2), (3, 12), (21, 16), (21, 17), (21, 18), (0, 16), (21, 19), (4, 8), (1, 12), (4, 9), (4, 0), (4, 1), (4, 2), (4, 3), (4, 4), (4, 5), (4, 6), (4, 7), (4, 10), (4, 11), (4, 12), (4, 13), (4, 14), (21, 20), (12, 8), (12, 9), (1, 14), (12, 10), (1, 18), (5, 14), (21, 21), (21, 22), (21, 23), (22, 0), (22, 1), (22, 2), (22, 3), (22, 4)] rfl (by decide +kernel)) tlL_wsX60) tlL_wsX20) tlL_wsX10
set_option maxRecDepth 20000 in
theorem gL_law_X6_compare : GoodIn wsL_law (wsV RL 78 RX6 yX6_compare wsX6_compare) := goodIn_app (goodIn_c _ [(21, 12), (21, 13), (21, 14), (0, 2)] rfl (by decide +kernel)) ggL_law_X6_compare
set_option maxRecDepth 20000 in
theorem ggL_law_X7_compare : GoodIn wsL_law wsX7_compare := goodIn_ca (goodIn_c _ [(22, 8), (6, 19), (6, 20), (0, 5), (6, 21), (6, 22), (6, 23), (7, 0), (7, 1), (22, 9), (22, 10), (22, 11), (22, 12), (2, 17), (2, 18), (2, 23), (7, 2), (7, 3), (7, 4), (7, 5), (13, 10), (13, 11), (13, 12), (9, 14), (9, 15), (9, 16), (9, 17), (2, 20)] rfl (by decide +kernel)) tlL_wsX70
set_option maxRecDepth 20000 in
theorem gL_law_X7_compare : GoodIn wsL_law (wsV RL 81 RX7 yX7_compare wsX7_compare) := goodIn_app (goodIn_c _ [(22, 5), (22, 6), (22, 7), (0, 5)] rfl (by decide +kernel)) ggL_law_X7_compare
set_option maxRecDepth 20000 in
theorem ggL_law_X6_write : GoodIn wsL_law wsX6_write := goodIn_ca (goodIn_ca (goodIn_ca (goodIn_ca (goodIn_c _ [(22, 16), (0, 14), (22, 17), (1, 1), (22, 18), (3, 10), (3, 11), (0, 2), (3, 12), (22, 19), (22, 20), (22, 21), (22, 22), (22, 23), (23, 0), (23, 1), (23, 2), (23, 3), (23, 4), (23, 5), (23, 6), (23, 7), (14, 14), (14, 15), (0, 16), (14, 16), (4, 8), (1, 12), (14, 17), (23, 8), (23, 9), (23, 10), (23, 11), (23, 12), (23, 13), (23, 14), (23, 15), (23, 16), (14, 10), (14, 11), (1, 14), (14, 12), (1, 18), (5, 14), (5, 18), (5, 19), (5, 20), (5, 21), (5, 22), (5, 23), (6, 0), (23, 17), (23, 18), (23, 19), (23, 20), (23, 21), (23, 22), (23, 23), (24, 0), (24, 1), (24, 2), (24, 3), (24, 4), (1, 0), (24, 5), (24, 6), (2, 6), (24, 7), (24, 8), (24, 9), (5, 8), (24, 10), (24, 11), (24, 12), (24, 13), (24, 14), (24, 15), (24, 16), (2, 5), (24, 17), (24, 18), (24, 19), (24, 20), (24, 21), (11, 17), (11, 18), (11, 19), (24, 22), (24, 23), (25, 0), (25, 1), (25, 2), (25, 3), (25, 4), (25, 5), (25, 6), (25, 7), (25, 8), (25, 9), (18, 21), (18, 22), (18, 23), (19, 0), (19, 1), (19, 2), (19, 3), (25, 10), (25, 11), (25, 12), (25, 13), (25, 14), (25, 15), (25, 16), (20, 2), (20, 3), (20, 4), (20, 5), (20, 6), (20, 7), (20, 8), (20, 9), (18, 20), (25, 17), (25, 18), (25, 19), (25, 20)] rfl (by decide +kernel)) tlL_wsX60) tlL_wsX00) tlL_wsX20) tlL_wsX10
set_option maxRecDepth 20000 in
theorem gL_law_X6_write : GoodIn wsL_law (wsV RL 82 RX6 yX6_write wsX6_write) := goodIn_app (goodIn_c _ [(22, 13), (22, 14), (22, 15), (0, 2)] rfl (by decide +kernel)) ggL_law_X6_write
set_option maxRecDepth 20000 in
theorem ggL_law_X7_write : GoodIn wsL_law wsX7_write := goodIn_ca (goodIn_c _ [(26, 0), (2, 17), (3, 1), (26, 1), (2, 19), (2, 18), (2, 20), (26, 2), (6, 19), (6, 20), (0, 5), (6, 21), (6, 22), (6, 23), (7, 0), (7, 1), (26, 3), (26, 4), (26, 5), (26, 6), (26, 7), (26, 8), (26, 9), (26, 10), (26, 11), (20, 19), (20, 20), (20, 21), (20, 22), (9, 14), (9, 15), (9, 16), (9, 17), (26, 12), (26, 13), (26, 14), (26, 15), (14, 22), (14, 23), (15, 0), (15, 1), (2, 23), (13, 9), (13, 10), (13, 11), (13, 12), (26, 16), (26, 17), (26, 18), (26, 19), (3, 2), (26, 20), (26, 21), (26, 22), (26, 23), (13, 1), (7, 6), (7, 7), (7, 8), (7, 9)] rfl (by decide +kernel)) tlL_wsX70
set_option maxRecDepth 20000 in
theorem gL_law_X7_write : GoodIn wsL_law (wsV RL 85 RX7 yX7_write wsX7_write) := goodIn_app (goodIn_c _ [(25, 21), (25, 22), (25, 23), (0, 5)] rfl (by decide +kernel)) ggL_law_X7_write
set_option maxRecDepth 20000 in
theorem ggL_law_X6_read : GoodIn wsL_law wsX6_read := goodIn_ca (goodIn_ca (goodIn_ca (goodIn_ca (goodIn_ca (goodIn_c _ [(27, 3), (1, 5), (1, 1), (0, 17), (27, 4), (0, 14), (3, 10), (3, 11), (0, 2), (3, 12), (11, 4), (11, 5), (11, 6), (11, 7), (1, 6), (27, 5), (27, 6), (27, 7), (1, 4), (27, 8), (27, 9), (27, 10), (27, 11), (27, 12), (27, 13), (27, 14), (27, 15), (27, 16), (27, 17), (27, 18), (27, 19), (27, 20), (27, 21), (27, 22), (27, 23), (28, 0), (28, 1), (28, 2), (28, 3), (28, 4), (28, 5), (28, 6), (28, 7), (28, 8), (28, 9), (28, 10), (28, 11), (28, 12), (28, 13), (28, 14), (28, 15), (28, 16), (1, 0), (28, 17), (28, 18), (28, 19), (28, 20), (28, 21), (2, 6), (28, 22), (28, 23), (29, 0), (29, 1), (29, 2), (29, 3), (29, 4), (29, 5), (29, 6), (29, 7), (29, 8), (29, 9), (29, 10), (2, 11), (2, 12), (29, 11), (29, 12), (29, 13), (29, 14), (29, 15), (29, 16), (29, 17), (29, 18), (29, 19), (29, 20), (29, 21), (4, 20), (4, 21), (1, 14), (4, 22), (1, 18), (4, 23), (5, 0), (5, 1), (5, 2), (5, 3), (5, 4), (5, 5), (2, 22), (5, 6), (5, 7), (5, 8), (5, 9), (29, 22), (29, 23), (30, 0), (30, 1), (30, 2), (30, 3), (30, 4), (5, 11), (5, 12), (5, 13), (5, 14), (5, 15), (5, 16), (5, 17), (5, 18), (5, 19), (5, 20), (5, 21), (5, 22), (5, 23), (6, 0), (30, 5), (30, 6), (30, 7), (30, 8), (30, 9), (30, 10), (30, 11), (30, 12), (30, 13), (30, 14), (12, 12), (12, 13), (12, 14), (0, 16), (12, 15), (1, 12), (4, 8), (8, 21), (8, 22), (8, 23), (9, 0), (6, 5)] rfl (by decide +kernel)) tlL_wsX60) tlL_wsX40) tlL_wsX00) tlL_wsX20) tlL_wsX10
set_option maxRecDepth 20000 in
theorem gL_law_X6_read : GoodIn wsL_law (wsV RL 86 RX6 yX6_read wsX6_read) := goodIn_app (goodIn_c _ [(27, 0), (27, 1), (27, 2), (0, 2)] rfl (by decide +kernel)) ggL_law_X6_read
set_option maxRecDepth 20000 in
theorem ggL_law_X7_read : GoodIn wsL_law wsX7_read := goodIn_ca (goodIn_c _ [(30, 18), (3, 0), (30, 19), (30, 20), (30, 21), (6, 19), (6, 20), (0, 5), (6, 21), (6, 22), (6, 23), (7, 0), (7, 1), (30, 22), (30, 23), (31, 0), (31, 1), (2, 17), (3, 4), (13, 9), (3, 3), (2, 23), (2, 20), (31, 2), (2, 19), (3, 5), (26, 2), (31, 3), (31, 4), (31, 5), (31, 6), (31, 7), (19, 16), (31, 8), (31, 9), (20, 22), (31, 10), (31, 11), (31, 12), (31, 13), (31, 14), (31, 15), (31, 16), (31, 17), (31, 18), (31, 19), (31, 20), (31, 21), (3, 2), (31, 22), (31, 23), (32, 0), (32, 1), (2, 18), (32, 2), (32, 3), (32, 4), (32, 5), (32, 6), (32, 7), (32, 8), (32, 9), (6, 18), (7, 18), (7, 19), (7, 20), (7, 21), (32, 10), (32, 11), (32, 12), (32, 13), (32, 14), (32, 15), (32, 16), (32, 17), (13, 10), (13, 11), (13, 12), (13, 17), (13, 18), (13, 19), (13, 20), (7, 14), (7, 15), (7, 16), (7, 17), (9, 14), (9, 15), (9, 16), (9, 17)] rfl (by decide +kernel)) tlL_wsX70
set_option maxRecDepth 20000 in
theorem gL_law_X7_read : GoodIn wsL_law (wsV RL 89 RX7 yX7_read wsX7_read) := goodIn_app (goodIn_c _ [(30, 15), (30, 16), (30, 17), (0, 5)] rfl (by decide +kernel)) ggL_law_X7_read
set_option maxRecDepth 20000 in
theorem ggL_law_X6_fault : GoodIn wsL_law wsX6_fault := goodIn_ca (goodIn_ca (goodIn_c _ [(32, 21), (1, 5), (32, 22)] rfl (by decide +kernel)) tlL_wsX60) tlL_wsX40
set_option maxRecDepth 20000 in
theorem gL_law_X6_fault : GoodIn wsL_law (wsV RL 90 RX6 yX6_fault wsX6_fault) := goodIn_app (goodIn_c _ [(32, 18), (32, 19), (32, 20), (0, 2)] rfl (by decide +kernel)) ggL_law_X6_fault
set_option maxRecDepth 20000 in
theorem ggL_law_X7_fault : GoodIn wsL_law wsX7_fault := goodIn_ca (goodIn_c _ [(33, 2), (30, 19)] rfl (by decide +kernel)) tlL_wsX70
set_option maxRecDepth 20000 in
theorem gL_law_X7_fault : GoodIn wsL_law (wsV RL 94 RX7 yX7_fault wsX7_fault) := goodIn_app (goodIn_c _ [(32, 23), (33, 0), (33, 1), (0, 5)] rfl (by decide +kernel)) ggL_law_X7_fault
set_option maxRecDepth 20000 in
theorem ggL_law_X6_cut : GoodIn wsL_law wsX6_cut := goodIn_ca (goodIn_ca (goodIn_c _ [(33, 6), (1, 1), (22, 18)] rfl (by decide +kernel)) tlL_wsX60) tlL_wsX00
set_option maxRecDepth 20000 in
theorem gL_law_X6_cut : GoodIn wsL_law (wsV RL 95 RX6 yX6_cut wsX6_cut) := goodIn_app (goodIn_c _ [(33, 3), (33, 4), (33, 5), (0, 2)] rfl (by decide +kernel)) ggL_law_X6_cut
set_option maxRecDepth 20000 in
theorem ggL_law_X7_cut : GoodIn wsL_law wsX7_cut := goodIn_ca (goodIn_c _ [(33, 10), (26, 2), (6, 23), (7, 0), (0, 5), (7, 1)] rfl (by decide +kernel)) tlL_wsX70
set_option maxRecDepth 20000 in
theorem gL_law_X7_cut : GoodIn wsL_law (wsV RL 98 RX7 yX7_cut wsX7_cut) := goodIn_app (goodIn_c _ [(33, 7), (33, 8), (33, 9), (0, 5)] rfl (by decide +kernel)) ggL_law_X7_cut
set_option maxRecDepth 20000 in
theorem ggL_law_X6_type : GoodIn wsL_law wsX6_type := goodIn_ca (goodIn_ca (goodIn_c _ [(33, 14), (1, 1), (22, 18), (22, 17), (33, 15), (24, 3), (24, 4), (1, 0), (24, 5), (24, 6), (2, 6), (24, 7), (24, 8), (24, 9), (5, 8), (24, 10), (24, 11), (24, 12), (24, 13), (24, 14), (24, 15), (24, 16), (2, 5), (24, 17), (24, 18), (24, 19), (24, 20), (24, 21), (11, 17), (11, 18), (11, 19)] rfl (by decide +kernel)) tlL_wsX60) tlL_wsX00
set_option maxRecDepth 20000 in
theorem gL_law_X6_type : GoodIn wsL_law (wsV RL 99 RX6 yX6_type wsX6_type) := goodIn_app (goodIn_c _ [(33, 11), (33, 12), (33, 13), (0, 2)] rfl (by decide +kernel)) ggL_law_X6_type
set_option maxRecDepth 20000 in
theorem ggL_law_X7_type : GoodIn wsL_law wsX7_type := goodIn_ca (goodIn_c _ [(33, 19), (16, 17), (26, 2), (3, 1), (3, 2), (16, 18), (6, 23), (7, 0), (0, 5), (7, 1)] rfl (by decide +kernel)) tlL_wsX70
set_option maxRecDepth 20000 in
theorem gL_law_X7_type : GoodIn wsL_law (wsV RL 103 RX7 yX7_type wsX7_type) := goodIn_app (goodIn_c _ [(33, 16), (33, 17), (33, 18), (0, 5)] rfl (by decide +kernel)) ggL_law_X7_type
set_option maxRecDepth 20000 in
theorem ggL_law_X6_at : GoodIn wsL_law wsX6_at := goodIn_ca (goodIn_ca (goodIn_c _ [(33, 23), (1, 1), (34, 0), (34, 1), (34, 2), (1, 0), (34, 3), (24, 6), (34, 4), (28, 19), (28, 20), (28, 21), (2, 6)] rfl (by decide +kernel)) tlL_wsX60) tlL_wsX00
set_option maxRecDepth 20000 in
theorem gL_law_X6_at : GoodIn wsL_law (wsV RL 104 RX6 yX6_at wsX6_at) := goodIn_app (goodIn_c _ [(33, 20), (33, 21), (33, 22), (0, 2)] rfl (by decide +kernel)) ggL_law_X6_at
set_option maxRecDepth 20000 in
theorem ggL_law_X7_at : GoodIn wsL_law wsX7_at := goodIn_ca (goodIn_c _ [(34, 8), (26, 2), (3, 2), (6, 23), (7, 0), (0, 5), (7, 1)] rfl (by decide +kernel)) tlL_wsX70
set_option maxRecDepth 20000 in
theorem gL_law_X7_at : GoodIn wsL_law (wsV RL 107 RX7 yX7_at wsX7_at) := goodIn_app (goodIn_c _ [(34, 5), (34, 6), (34, 7), (0, 5)] rfl (by decide +kernel)) ggL_law_X7_at
set_option maxRecDepth 20000 in
theorem ggL_law_X6_alter : GoodIn wsL_law wsX6_alter := goodIn_ca (goodIn_ca (goodIn_c _ [(34, 12), (1, 1), (34, 13), (34, 0), (34, 1), (34, 2), (1, 0), (34, 3), (24, 6), (34, 4), (28, 19), (28, 20), (28, 21), (2, 6)] rfl (by decide +kernel)) tlL_wsX60) tlL_wsX00
set_option maxRecDepth 20000 in
theorem gL_law_X6_alter : GoodIn wsL_law (wsV RL 108 RX6 yX6_alter wsX6_alter) := goodIn_app (goodIn_c _ [(34, 9), (34, 10), (34, 11), (0, 2)] rfl (by decide +kernel)) ggL_law_X6_alter
set_option maxRecDepth 20000 in
theorem ggL_law_X7_alter : GoodIn wsL_law wsX7_alter := goodIn_ca (goodIn_c _ [(34, 17), (26, 2), (16, 18), (3, 2), (6, 23), (7, 0), (0, 5), (7, 1)] rfl (by decide +kernel)) tlL_wsX70
set_option maxRecDepth 20000 in
theorem gL_law_X7_alter : GoodIn wsL_law (wsV RL 111 RX7 yX7_alter wsX7_alter) := goodIn_app (goodIn_c _ [(34, 14), (34, 15), (34, 16), (0, 5)] rfl (by decide +kernel)) ggL_law_X7_alter
set_option maxRecDepth 20000 in
theorem ggL_law_X6_work : GoodIn wsL_law wsX6_work := goodIn_ca (goodIn_c _ [(34, 21), (1, 6)] rfl (by decide +kernel)) tlL_wsX60
set_option maxRecDepth 20000 in
theorem gL_law_X6_work : GoodIn wsL_law (wsV RL 112 RX6 yX6_work wsX6_work) := goodIn_app (goodIn_c _ [(34, 18), (34, 19), (34, 20), (0, 2)] rfl (by decide +kernel)) ggL_law_X6_work
set_option maxRecDepth 20000 in
theorem ggL_law_X7_work : GoodIn wsL_law wsX7_work := goodIn_ca (goodIn_c _ [(35, 1), (3, 0)] rfl (by decide +kernel)) tlL_wsX70
set_option maxRecDepth 20000 in
theorem gL_law_X7_work : GoodIn wsL_law (wsV RL 115 RX7 yX7_work wsX7_work) := goodIn_app (goodIn_c _ [(34, 22), (34, 23), (35, 0), (0, 5)] rfl (by decide +kernel)) ggL_law_X7_work
set_option maxRecDepth 20000 in
theorem ggL_law_X6_size : GoodIn wsL_law wsX6_size := goodIn_ca (goodIn_ca (goodIn_c _ [(35, 5), (1, 1), (22, 18)] rfl (by decide +kernel)) tlL_wsX60) tlL_wsX00
set_option maxRecDepth 20000 in
theorem gL_law_X6_size : GoodIn wsL_law (wsV RL 116 RX6 yX6_size wsX6_size) := goodIn_app (goodIn_c _ [(35, 2), (35, 3), (35, 4), (0, 2)] rfl (by decide +kernel)) ggL_law_X6_size
set_option maxRecDepth 20000 in
theorem ggL_law_X7_size : GoodIn wsL_law wsX7_size := goodIn_ca (goodIn_c _ [(35, 9), (26, 2)] rfl (by decide +kernel)) tlL_wsX70
set_option maxRecDepth 20000 in
theorem gL_law_X7_size : GoodIn wsL_law (wsV RL 119 RX7 yX7_size wsX7_size) := goodIn_app (goodIn_c _ [(35, 6), (35, 7), (35, 8), (0, 5)] rfl (by decide +kernel)) ggL_law_X7_size
set_option maxRecDepth 20000 in
theorem ggL_law_X6_digest : GoodIn wsL_law wsX6_digest := goodIn_ca (goodIn_ca (goodIn_ca (goodIn_c _ [(35, 13), (35, 14), (0, 14), (35, 15), (35, 16), (35, 17), (0, 16), (35, 18), (35, 19), (4, 8), (1, 12), (35, 20), (8, 22), (8, 23), (9, 0), (6, 5), (35, 21), (35, 22), (35, 23), (1, 14), (36, 0), (36, 1), (4, 23), (5, 0), (5, 1), (1, 18), (14, 9), (14, 10), (14, 11), (14, 12), (5, 14), (5, 18), (5, 19), (5, 20), (5, 21), (5, 22), (5, 23), (6, 0)] rfl (by decide +kernel)) tlL_wsX60) tlL_wsX20) tlL_wsX10
set_option maxRecDepth 20000 in
theorem gL_law_X6_digest : GoodIn wsL_law (wsV RL 120 RX6 yX6_digest wsX6_digest) := goodIn_app (goodIn_c _ [(35, 10), (35, 11), (35, 12), (0, 2)] rfl (by decide +kernel)) ggL_law_X6_digest
set_option maxRecDepth 20000 in
theorem ggL_law_X7_digest : GoodIn wsL_law wsX7_digest := goodIn_ca (goodIn_c _ [(36, 5), (36, 6), (36, 7), (2, 17), (2, 23), (9, 14), (9, 15), (9, 16), (0, 5), (9, 17), (2, 20), (36, 8), (21, 9), (21, 10), (21, 11), (12, 20), (2, 18), (2, 19), (6, 19), (6, 20), (6, 21), (6, 22), (6, 23), (7, 0), (7, 1), (14, 22), (14, 23), (15, 0), (15, 1), (13, 9), (13, 10), (13, 11), (13, 12)] rfl (by decide +kernel)) tlL_wsX70
set_option maxRecDepth 20000 in
theorem gL_law_X7_digest : GoodIn wsL_law (wsV RL 124 RX7 yX7_digest wsX7_digest) := goodIn_app (goodIn_c _ [(36, 2), (36, 3), (36, 4), (0, 5)] rfl (by decide +kernel)) ggL_law_X7_digest
