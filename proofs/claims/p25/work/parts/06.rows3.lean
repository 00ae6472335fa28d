theorem dJ6_numberOfLeadingZeros_0f7a4_0 : decode cJ6_numberOfLeadingZeros_0f7a4 0 = .ok (.iload_n 0, 1) := by decide +kernel
theorem dJ6_numberOfLeadingZeros_0f7a4_1 : decode cJ6_numberOfLeadingZeros_0f7a4 1 = .ok (.ifCond .gt 14, 3) := by decide +kernel
theorem dJ6_numberOfLeadingZeros_0f7a4_4 : decode cJ6_numberOfLeadingZeros_0f7a4 4 = .ok (.iload_n 0, 1) := by decide +kernel
theorem dJ6_numberOfLeadingZeros_0f7a4_5 : decode cJ6_numberOfLeadingZeros_0f7a4 5 = .ok (.ifCond .ne 8, 3) := by decide +kernel
theorem dJ6_numberOfLeadingZeros_0f7a4_8 : decode cJ6_numberOfLeadingZeros_0f7a4 8 = .ok (.bipush 32, 2) := by decide +kernel
theorem dJ6_numberOfLeadingZeros_0f7a4_10 : decode cJ6_numberOfLeadingZeros_0f7a4 10 = .ok (.goto 4, 3) := by decide +kernel
theorem dJ6_numberOfLeadingZeros_0f7a4_13 : decode cJ6_numberOfLeadingZeros_0f7a4 13 = .ok (.iconst 0, 1) := by decide +kernel
theorem dJ6_numberOfLeadingZeros_0f7a4_14 : decode cJ6_numberOfLeadingZeros_0f7a4 14 = .ok (.ireturn, 1) := by decide +kernel
theorem dJ6_numberOfLeadingZeros_0f7a4_15 : decode cJ6_numberOfLeadingZeros_0f7a4 15 = .ok (.bipush 31, 2) := by decide +kernel
theorem dJ6_numberOfLeadingZeros_0f7a4_17 : decode cJ6_numberOfLeadingZeros_0f7a4 17 = .ok (.istore_n 1, 1) := by decide +kernel
theorem dJ6_numberOfLeadingZeros_0f7a4_18 : decode cJ6_numberOfLeadingZeros_0f7a4 18 = .ok (.iload_n 0, 1) := by decide +kernel
theorem dJ6_numberOfLeadingZeros_0f7a4_19 : decode cJ6_numberOfLeadingZeros_0f7a4 19 = .ok (.ldc_w 264, 3) := by decide +kernel
theorem dJ6_numberOfLeadingZeros_0f7a4_22 : decode cJ6_numberOfLeadingZeros_0f7a4 22 = .ok (.if_icmp .lt 11, 3) := by decide +kernel
theorem dJ6_numberOfLeadingZeros_0f7a4_25 : decode cJ6_numberOfLeadingZeros_0f7a4 25 = .ok (.iinc 1 (-16), 3) := by decide +kernel
theorem dJ6_numberOfLeadingZeros_0f7a4_28 : decode cJ6_numberOfLeadingZeros_0f7a4 28 = .ok (.iload_n 0, 1) := by decide +kernel
theorem dJ6_numberOfLeadingZeros_0f7a4_29 : decode cJ6_numberOfLeadingZeros_0f7a4 29 = .ok (.bipush 16, 2) := by decide +kernel
theorem dJ6_numberOfLeadingZeros_0f7a4_31 : decode cJ6_numberOfLeadingZeros_0f7a4 31 = .ok (.iushr, 1) := by decide +kernel
theorem dJ6_numberOfLeadingZeros_0f7a4_32 : decode cJ6_numberOfLeadingZeros_0f7a4 32 = .ok (.istore_n 0, 1) := by decide +kernel
theorem dJ6_numberOfLeadingZeros_0f7a4_33 : decode cJ6_numberOfLeadingZeros_0f7a4 33 = .ok (.iload_n 0, 1) := by decide +kernel
theorem dJ6_numberOfLeadingZeros_0f7a4_34 : decode cJ6_numberOfLeadingZeros_0f7a4 34 = .ok (.sipush 256, 3) := by decide +kernel
theorem dJ6_numberOfLeadingZeros_0f7a4_37 : decode cJ6_numberOfLeadingZeros_0f7a4 37 = .ok (.if_icmp .lt 11, 3) := by decide +kernel
theorem dJ6_numberOfLeadingZeros_0f7a4_40 : decode cJ6_numberOfLeadingZeros_0f7a4 40 = .ok (.iinc 1 (-8), 3) := by decide +kernel
theorem dJ6_numberOfLeadingZeros_0f7a4_43 : decode cJ6_numberOfLeadingZeros_0f7a4 43 = .ok (.iload_n 0, 1) := by decide +kernel
theorem dJ6_numberOfLeadingZeros_0f7a4_44 : decode cJ6_numberOfLeadingZeros_0f7a4 44 = .ok (.bipush 8, 2) := by decide +kernel
theorem dJ6_numberOfLeadingZeros_0f7a4_46 : decode cJ6_numberOfLeadingZeros_0f7a4 46 = .ok (.iushr, 1) := by decide +kernel
theorem dJ6_numberOfLeadingZeros_0f7a4_47 : decode cJ6_numberOfLeadingZeros_0f7a4 47 = .ok (.istore_n 0, 1) := by decide +kernel
theorem dJ6_numberOfLeadingZeros_0f7a4_48 : decode cJ6_numberOfLeadingZeros_0f7a4 48 = .ok (.iload_n 0, 1) := by decide +kernel
theorem dJ6_numberOfLeadingZeros_0f7a4_49 : decode cJ6_numberOfLeadingZeros_0f7a4 49 = .ok (.bipush 16, 2) := by decide +kernel
theorem dJ6_numberOfLeadingZeros_0f7a4_51 : decode cJ6_numberOfLeadingZeros_0f7a4 51 = .ok (.if_icmp .lt 10, 3) := by decide +kernel
theorem dJ6_numberOfLeadingZeros_0f7a4_54 : decode cJ6_numberOfLeadingZeros_0f7a4 54 = .ok (.iinc 1 (-4), 3) := by decide +kernel
theorem dJ6_numberOfLeadingZeros_0f7a4_57 : decode cJ6_numberOfLeadingZeros_0f7a4 57 = .ok (.iload_n 0, 1) := by decide +kernel
theorem dJ6_numberOfLeadingZeros_0f7a4_58 : decode cJ6_numberOfLeadingZeros_0f7a4 58 = .ok (.iconst 4, 1) := by decide +kernel
theorem dJ6_numberOfLeadingZeros_0f7a4_59 : decode cJ6_numberOfLeadingZeros_0f7a4 59 = .ok (.iushr, 1) := by decide +kernel
theorem dJ6_numberOfLeadingZeros_0f7a4_60 : decode cJ6_numberOfLeadingZeros_0f7a4 60 = .ok (.istore_n 0, 1) := by decide +kernel
theorem dJ6_numberOfLeadingZeros_0f7a4_61 : decode cJ6_numberOfLeadingZeros_0f7a4 61 = .ok (.iload_n 0, 1) := by decide +kernel
theorem dJ6_numberOfLeadingZeros_0f7a4_62 : decode cJ6_numberOfLeadingZeros_0f7a4 62 = .ok (.iconst 4, 1) := by decide +kernel
theorem dJ6_numberOfLeadingZeros_0f7a4_63 : decode cJ6_numberOfLeadingZeros_0f7a4 63 = .ok (.if_icmp .lt 10, 3) := by decide +kernel
theorem dJ6_numberOfLeadingZeros_0f7a4_66 : decode cJ6_numberOfLeadingZeros_0f7a4 66 = .ok (.iinc 1 (-2), 3) := by decide +kernel
theorem dJ6_numberOfLeadingZeros_0f7a4_69 : decode cJ6_numberOfLeadingZeros_0f7a4 69 = .ok (.iload_n 0, 1) := by decide +kernel
theorem dJ6_numberOfLeadingZeros_0f7a4_70 : decode cJ6_numberOfLeadingZeros_0f7a4 70 = .ok (.iconst 2, 1) := by decide +kernel
theorem dJ6_numberOfLeadingZeros_0f7a4_71 : decode cJ6_numberOfLeadingZeros_0f7a4 71 = .ok (.iushr, 1) := by decide +kernel
theorem dJ6_numberOfLeadingZeros_0f7a4_72 : decode cJ6_numberOfLeadingZeros_0f7a4 72 = .ok (.istore_n 0, 1) := by decide +kernel
theorem dJ6_numberOfLeadingZeros_0f7a4_73 : decode cJ6_numberOfLeadingZeros_0f7a4 73 = .ok (.iload_n 1, 1) := by decide +kernel
theorem dJ6_numberOfLeadingZeros_0f7a4_74 : decode cJ6_numberOfLeadingZeros_0f7a4 74 = .ok (.iload_n 0, 1) := by decide +kernel
theorem dJ6_numberOfLeadingZeros_0f7a4_75 : decode cJ6_numberOfLeadingZeros_0f7a4 75 = .ok (.iconst 1, 1) := by decide +kernel
theorem dJ6_numberOfLeadingZeros_0f7a4_76 : decode cJ6_numberOfLeadingZeros_0f7a4 76 = .ok (.iushr, 1) := by decide +kernel
theorem dJ6_numberOfLeadingZeros_0f7a4_77 : decode cJ6_numberOfLeadingZeros_0f7a4 77 = .ok (.isub, 1) := by decide +kernel
theorem dJ6_numberOfLeadingZeros_0f7a4_78 : decode cJ6_numberOfLeadingZeros_0f7a4 78 = .ok (.ireturn, 1) := by decide +kernel
theorem dJ6_numberOfTrailingZeros_0f7a4_0 : decode cJ6_numberOfTrailingZeros_0f7a4 0 = .ok (.iload_n 0, 1) := by decide +kernel
theorem dJ6_numberOfTrailingZeros_0f7a4_1 : decode cJ6_numberOfTrailingZeros_0f7a4 1 = .ok (.iconst (-1), 1) := by decide +kernel
theorem dJ6_numberOfTrailingZeros_0f7a4_2 : decode cJ6_numberOfTrailingZeros_0f7a4 2 = .ok (.ixor, 1) := by decide +kernel
theorem dJ6_numberOfTrailingZeros_0f7a4_3 : decode cJ6_numberOfTrailingZeros_0f7a4 3 = .ok (.iload_n 0, 1) := by decide +kernel
theorem dJ6_numberOfTrailingZeros_0f7a4_4 : decode cJ6_numberOfTrailingZeros_0f7a4 4 = .ok (.iconst 1, 1) := by decide +kernel
theorem dJ6_numberOfTrailingZeros_0f7a4_5 : decode cJ6_numberOfTrailingZeros_0f7a4 5 = .ok (.isub, 1) := by decide +kernel
theorem dJ6_numberOfTrailingZeros_0f7a4_6 : decode cJ6_numberOfTrailingZeros_0f7a4 6 = .ok (.iand, 1) := by decide +kernel
theorem dJ6_numberOfTrailingZeros_0f7a4_7 : decode cJ6_numberOfTrailingZeros_0f7a4 7 = .ok (.istore_n 0, 1) := by decide +kernel
theorem dJ6_numberOfTrailingZeros_0f7a4_8 : decode cJ6_numberOfTrailingZeros_0f7a4 8 = .ok (.iload_n 0, 1) := by decide +kernel
theorem dJ6_numberOfTrailingZeros_0f7a4_9 : decode cJ6_numberOfTrailingZeros_0f7a4 9 = .ok (.ifCond .gt 8, 3) := by decide +kernel
theorem dJ6_numberOfTrailingZeros_0f7a4_12 : decode cJ6_numberOfTrailingZeros_0f7a4 12 = .ok (.iload_n 0, 1) := by decide +kernel
theorem dJ6_numberOfTrailingZeros_0f7a4_13 : decode cJ6_numberOfTrailingZeros_0f7a4 13 = .ok (.bipush 32, 2) := by decide +kernel
theorem dJ6_numberOfTrailingZeros_0f7a4_15 : decode cJ6_numberOfTrailingZeros_0f7a4 15 = .ok (.iand, 1) := by decide +kernel
theorem dJ6_numberOfTrailingZeros_0f7a4_16 : decode cJ6_numberOfTrailingZeros_0f7a4 16 = .ok (.ireturn, 1) := by decide +kernel
theorem dJ6_numberOfTrailingZeros_0f7a4_17 : decode cJ6_numberOfTrailingZeros_0f7a4 17 = .ok (.iconst 1, 1) := by decide +kernel
theorem dJ6_numberOfTrailingZeros_0f7a4_18 : decode cJ6_numberOfTrailingZeros_0f7a4 18 = .ok (.istore_n 1, 1) := by decide +kernel
theorem dJ6_numberOfTrailingZeros_0f7a4_19 : decode cJ6_numberOfTrailingZeros_0f7a4 19 = .ok (.iload_n 0, 1) := by decide +kernel
theorem dJ6_numberOfTrailingZeros_0f7a4_20 : decode cJ6_numberOfTrailingZeros_0f7a4 20 = .ok (.ldc_w 264, 3) := by decide +kernel
theorem dJ6_numberOfTrailingZeros_0f7a4_23 : decode cJ6_numberOfTrailingZeros_0f7a4 23 = .ok (.if_icmp .le 11, 3) := by decide +kernel
theorem dJ6_numberOfTrailingZeros_0f7a4_26 : decode cJ6_numberOfTrailingZeros_0f7a4 26 = .ok (.iinc 1 16, 3) := by decide +kernel
theorem dJ6_numberOfTrailingZeros_0f7a4_29 : decode cJ6_numberOfTrailingZeros_0f7a4 29 = .ok (.iload_n 0, 1) := by decide +kernel
theorem dJ6_numberOfTrailingZeros_0f7a4_30 : decode cJ6_numberOfTrailingZeros_0f7a4 30 = .ok (.bipush 16, 2) := by decide +kernel
theorem dJ6_numberOfTrailingZeros_0f7a4_32 : decode cJ6_numberOfTrailingZeros_0f7a4 32 = .ok (.iushr, 1) := by decide +kernel
theorem dJ6_numberOfTrailingZeros_0f7a4_33 : decode cJ6_numberOfTrailingZeros_0f7a4 33 = .ok (.istore_n 0, 1) := by decide +kernel
theorem dJ6_numberOfTrailingZeros_0f7a4_34 : decode cJ6_numberOfTrailingZeros_0f7a4 34 = .ok (.iload_n 0, 1) := by decide +kernel
theorem dJ6_numberOfTrailingZeros_0f7a4_35 : decode cJ6_numberOfTrailingZeros_0f7a4 35 = .ok (.sipush 256, 3) := by decide +kernel
theorem dJ6_numberOfTrailingZeros_0f7a4_38 : decode cJ6_numberOfTrailingZeros_0f7a4 38 = .ok (.if_icmp .le 11, 3) := by decide +kernel
theorem dJ6_numberOfTrailingZeros_0f7a4_41 : decode cJ6_numberOfTrailingZeros_0f7a4 41 = .ok (.iinc 1 8, 3) := by decide +kernel
theorem dJ6_numberOfTrailingZeros_0f7a4_44 : decode cJ6_numberOfTrailingZeros_0f7a4 44 = .ok (.iload_n 0, 1) := by decide +kernel
theorem dJ6_numberOfTrailingZeros_0f7a4_45 : decode cJ6_numberOfTrailingZeros_0f7a4 45 = .ok (.bipush 8, 2) := by decide +kernel
theorem dJ6_numberOfTrailingZeros_0f7a4_47 : decode cJ6_numberOfTrailingZeros_0f7a4 47 = .ok (.iushr, 1) := by decide +kernel
theorem dJ6_numberOfTrailingZeros_0f7a4_48 : decode cJ6_numberOfTrailingZeros_0f7a4 48 = .ok (.istore_n 0, 1) := by decide +kernel
theorem dJ6_numberOfTrailingZeros_0f7a4_49 : decode cJ6_numberOfTrailingZeros_0f7a4 49 = .ok (.iload_n 0, 1) := by decide +kernel
theorem dJ6_numberOfTrailingZeros_0f7a4_50 : decode cJ6_numberOfTrailingZeros_0f7a4 50 = .ok (.bipush 16, 2) := by decide +kernel
theorem dJ6_numberOfTrailingZeros_0f7a4_52 : decode cJ6_numberOfTrailingZeros_0f7a4 52 = .ok (.if_icmp .le 10, 3) := by decide +kernel
theorem dJ6_numberOfTrailingZeros_0f7a4_55 : decode cJ6_numberOfTrailingZeros_0f7a4 55 = .ok (.iinc 1 4, 3) := by decide +kernel
theorem dJ6_numberOfTrailingZeros_0f7a4_58 : decode cJ6_numberOfTrailingZeros_0f7a4 58 = .ok (.iload_n 0, 1) := by decide +kernel
theorem dJ6_numberOfTrailingZeros_0f7a4_59 : decode cJ6_numberOfTrailingZeros_0f7a4 59 = .ok (.iconst 4, 1) := by decide +kernel
theorem dJ6_numberOfTrailingZeros_0f7a4_60 : decode cJ6_numberOfTrailingZeros_0f7a4 60 = .ok (.iushr, 1) := by decide +kernel
theorem dJ6_numberOfTrailingZeros_0f7a4_61 : decode cJ6_numberOfTrailingZeros_0f7a4 61 = .ok (.istore_n 0, 1) := by decide +kernel
theorem dJ6_numberOfTrailingZeros_0f7a4_62 : decode cJ6_numberOfTrailingZeros_0f7a4 62 = .ok (.iload_n 0, 1) := by decide +kernel
theorem dJ6_numberOfTrailingZeros_0f7a4_63 : decode cJ6_numberOfTrailingZeros_0f7a4 63 = .ok (.iconst 4, 1) := by decide +kernel
theorem dJ6_numberOfTrailingZeros_0f7a4_64 : decode cJ6_numberOfTrailingZeros_0f7a4 64 = .ok (.if_icmp .le 10, 3) := by decide +kernel
theorem dJ6_numberOfTrailingZeros_0f7a4_67 : decode cJ6_numberOfTrailingZeros_0f7a4 67 = .ok (.iinc 1 2, 3) := by decide +kernel
theorem dJ6_numberOfTrailingZeros_0f7a4_70 : decode cJ6_numberOfTrailingZeros_0f7a4 70 = .ok (.iload_n 0, 1) := by decide +kernel
theorem dJ6_numberOfTrailingZeros_0f7a4_71 : decode cJ6_numberOfTrailingZeros_0f7a4 71 = .ok (.iconst 2, 1) := by decide +kernel
theorem dJ6_numberOfTrailingZeros_0f7a4_72 : decode cJ6_numberOfTrailingZeros_0f7a4 72 = .ok (.iushr, 1) := by decide +kernel
theorem dJ6_numberOfTrailingZeros_0f7a4_73 : decode cJ6_numberOfTrailingZeros_0f7a4 73 = .ok (.istore_n 0, 1) := by decide +kernel
theorem dJ6_numberOfTrailingZeros_0f7a4_74 : decode cJ6_numberOfTrailingZeros_0f7a4 74 = .ok (.iload_n 1, 1) := by decide +kernel
theorem dJ6_numberOfTrailingZeros_0f7a4_75 : decode cJ6_numberOfTrailingZeros_0f7a4 75 = .ok (.iload_n 0, 1) := by decide +kernel
theorem dJ6_numberOfTrailingZeros_0f7a4_76 : decode cJ6_numberOfTrailingZeros_0f7a4 76 = .ok (.iconst 1, 1) := by decide +kernel
theorem dJ6_numberOfTrailingZeros_0f7a4_77 : decode cJ6_numberOfTrailingZeros_0f7a4 77 = .ok (.iushr, 1) := by decide +kernel
theorem dJ6_numberOfTrailingZeros_0f7a4_78 : decode cJ6_numberOfTrailingZeros_0f7a4 78 = .ok (.iadd, 1) := by decide +kernel
theorem dJ6_numberOfTrailingZeros_0f7a4_79 : decode cJ6_numberOfTrailingZeros_0f7a4 79 = .ok (.ireturn, 1) := by decide +kernel
set_option maxRecDepth 20000 in
theorem ggJ13_numberOfLeadingZeros_95d88_J6_numberOfLeadingZeros_0f7a4 : GoodIn wsJ13_numberOfLeadingZeros_95d88 wsJ6_numberOfLeadingZeros_0f7a4 := goodIn_r _ [4, 5] (by decide +kernel) (by decide +kernel)
set_option maxRecDepth 20000 in
theorem gJ13_numberOfLeadingZeros_95d88_J6_numberOfLeadingZeros_0f7a4 : GoodIn wsJ13_numberOfLeadingZeros_95d88 (va_wsS RJ13 308 yJ6_numberOfLeadingZeros_0f7a4 wsJ6_numberOfLeadingZeros_0f7a4) := goodIn_app (goodIn_of _ (by decide +kernel)) ggJ13_numberOfLeadingZeros_95d88_J6_numberOfLeadingZeros_0f7a4
theorem dJ13_numberOfLeadingZeros_95d88_0 : decode cJ13_numberOfLeadingZeros_95d88 0 = .ok (.lload_n 0, 1) := by decide +kernel
theorem dJ13_numberOfLeadingZeros_95d88_1 : decode cJ13_numberOfLeadingZeros_95d88 1 = .ok (.bipush 32, 2) := by decide +kernel
theorem dJ13_numberOfLeadingZeros_95d88_3 : decode cJ13_numberOfLeadingZeros_95d88 3 = .ok (.lushr, 1) := by decide +kernel
theorem dJ13_numberOfLeadingZeros_95d88_4 : decode cJ13_numberOfLeadingZeros_95d88 4 = .ok (.l2i, 1) := by decide +kernel
theorem dJ13_numberOfLeadingZeros_95d88_5 : decode cJ13_numberOfLeadingZeros_95d88 5 = .ok (.istore_n 2, 1) := by decide +kernel
theorem dJ13_numberOfLeadingZeros_95d88_6 : decode cJ13_numberOfLeadingZeros_95d88 6 = .ok (.iload_n 2, 1) := by decide +kernel
theorem dJ13_numberOfLeadingZeros_95d88_7 : decode cJ13_numberOfLeadingZeros_95d88 7 = .ok (.ifCond .ne 14, 3) := by decide +kernel
theorem dJ13_numberOfLeadingZeros_95d88_10 : decode cJ13_numberOfLeadingZeros_95d88 10 = .ok (.bipush 32, 2) := by decide +kernel
theorem dJ13_numberOfLeadingZeros_95d88_12 : decode cJ13_numberOfLeadingZeros_95d88 12 = .ok (.lload_n 0, 1) := by decide +kernel
theorem dJ13_numberOfLeadingZeros_95d88_13 : decode cJ13_numberOfLeadingZeros_95d88 13 = .ok (.l2i, 1) := by decide +kernel
theorem dJ13_numberOfLeadingZeros_95d88_14 : decode cJ13_numberOfLeadingZeros_95d88 14 = .ok (.invokestatic 308, 3) := by decide +kernel
theorem dJ13_numberOfLeadingZeros_95d88_17 : decode cJ13_numberOfLeadingZeros_95d88 17 = .ok (.iadd, 1) := by decide +kernel
theorem dJ13_numberOfLeadingZeros_95d88_18 : decode cJ13_numberOfLeadingZeros_95d88 18 = .ok (.goto 7, 3) := by decide +kernel
theorem dJ13_numberOfLeadingZeros_95d88_21 : decode cJ13_numberOfLeadingZeros_95d88 21 = .ok (.iload_n 2, 1) := by decide +kernel
theorem dJ13_numberOfLeadingZeros_95d88_22 : decode cJ13_numberOfLeadingZeros_95d88 22 = .ok (.invokestatic 308, 3) := by decide +kernel
theorem dJ13_numberOfLeadingZeros_95d88_25 : decode cJ13_numberOfLeadingZeros_95d88 25 = .ok (.ireturn, 1) := by decide +kernel
set_option maxRecDepth 20000 in
theorem ggJ13_numberOfTrailingZeros_95d88_J6_numberOfTrailingZeros_0f7a4 : GoodIn wsJ13_numberOfTrailingZeros_95d88 wsJ6_numberOfTrailingZeros_0f7a4 := goodIn_r _ [4, 5] (by decide +kernel) (by decide +kernel)
set_option maxRecDepth 20000 in
theorem gJ13_numberOfTrailingZeros_95d88_J6_numberOfTrailingZeros_0f7a4 : GoodIn wsJ13_numberOfTrailingZeros_95d88 (va_wsS RJ13 311 yJ6_numberOfTrailingZeros_0f7a4 wsJ6_numberOfTrailingZeros_0f7a4) := goodIn_app (goodIn_of _ (by decide +kernel)) ggJ13_numberOfTrailingZeros_95d88_J6_numberOfTrailingZeros_0f7a4
theorem dJ13_numberOfTrailingZeros_95d88_0 : decode cJ13_numberOfTrailingZeros_95d88 0 = .ok (.lload_n 0, 1) := by decide +kernel
theorem dJ13_numberOfTrailingZeros_95d88_1 : decode cJ13_numberOfTrailingZeros_95d88 1 = .ok (.l2i, 1) := by decide +kernel
theorem dJ13_numberOfTrailingZeros_95d88_2 : decode cJ13_numberOfTrailingZeros_95d88 2 = .ok (.istore_n 2, 1) := by decide +kernel
theorem dJ13_numberOfTrailingZeros_95d88_3 : decode cJ13_numberOfTrailingZeros_95d88 3 = .ok (.iload_n 2, 1) := by decide +kernel
theorem dJ13_numberOfTrailingZeros_95d88_4 : decode cJ13_numberOfTrailingZeros_95d88 4 = .ok (.ifCond .ne 17, 3) := by decide +kernel
theorem dJ13_numberOfTrailingZeros_95d88_7 : decode cJ13_numberOfTrailingZeros_95d88 7 = .ok (.bipush 32, 2) := by decide +kernel
theorem dJ13_numberOfTrailingZeros_95d88_9 : decode cJ13_numberOfTrailingZeros_95d88 9 = .ok (.lload_n 0, 1) := by decide +kernel
theorem dJ13_numberOfTrailingZeros_95d88_10 : decode cJ13_numberOfTrailingZeros_95d88 10 = .ok (.bipush 32, 2) := by decide +kernel
theorem dJ13_numberOfTrailingZeros_95d88_12 : decode cJ13_numberOfTrailingZeros_95d88 12 = .ok (.lushr, 1) := by decide +kernel
theorem dJ13_numberOfTrailingZeros_95d88_13 : decode cJ13_numberOfTrailingZeros_95d88 13 = .ok (.l2i, 1) := by decide +kernel
theorem dJ13_numberOfTrailingZeros_95d88_14 : decode cJ13_numberOfTrailingZeros_95d88 14 = .ok (.invokestatic 311, 3) := by decide +kernel
theorem dJ13_numberOfTrailingZeros_95d88_17 : decode cJ13_numberOfTrailingZeros_95d88 17 = .ok (.iadd, 1) := by decide +kernel
theorem dJ13_numberOfTrailingZeros_95d88_18 : decode cJ13_numberOfTrailingZeros_95d88 18 = .ok (.goto 7, 3) := by decide +kernel
theorem dJ13_numberOfTrailingZeros_95d88_21 : decode cJ13_numberOfTrailingZeros_95d88 21 = .ok (.iload_n 2, 1) := by decide +kernel
theorem dJ13_numberOfTrailingZeros_95d88_22 : decode cJ13_numberOfTrailingZeros_95d88 22 = .ok (.invokestatic 311, 3) := by decide +kernel
theorem dJ13_numberOfTrailingZeros_95d88_25 : decode cJ13_numberOfTrailingZeros_95d88 25 = .ok (.ireturn, 1) := by decide +kernel
theorem dJ9_floorMod_7cf53_0 : decode cJ9_floorMod_7cf53 0 = .ok (.iload_n 0, 1) := by decide +kernel
theorem dJ9_floorMod_7cf53_1 : decode cJ9_floorMod_7cf53 1 = .ok (.iload_n 1, 1) := by decide +kernel
theorem dJ9_floorMod_7cf53_2 : decode cJ9_floorMod_7cf53 2 = .ok (.irem, 1) := by decide +kernel
theorem dJ9_floorMod_7cf53_3 : decode cJ9_floorMod_7cf53 3 = .ok (.istore_n 2, 1) := by decide +kernel
theorem dJ9_floorMod_7cf53_4 : decode cJ9_floorMod_7cf53 4 = .ok (.iload_n 0, 1) := by decide +kernel
theorem dJ9_floorMod_7cf53_5 : decode cJ9_floorMod_7cf53 5 = .ok (.iload_n 1, 1) := by decide +kernel
theorem dJ9_floorMod_7cf53_6 : decode cJ9_floorMod_7cf53 6 = .ok (.ixor, 1) := by decide +kernel
theorem dJ9_floorMod_7cf53_7 : decode cJ9_floorMod_7cf53 7 = .ok (.ifCond .ge 11, 3) := by decide +kernel
theorem dJ9_floorMod_7cf53_10 : decode cJ9_floorMod_7cf53 10 = .ok (.iload_n 2, 1) := by decide +kernel
theorem dJ9_floorMod_7cf53_11 : decode cJ9_floorMod_7cf53 11 = .ok (.ifCond .eq 7, 3) := by decide +kernel
theorem dJ9_floorMod_7cf53_14 : decode cJ9_floorMod_7cf53 14 = .ok (.iload_n 2, 1) := by decide +kernel
theorem dJ9_floorMod_7cf53_15 : decode cJ9_floorMod_7cf53 15 = .ok (.iload_n 1, 1) := by decide +kernel
theorem dJ9_floorMod_7cf53_16 : decode cJ9_floorMod_7cf53 16 = .ok (.iadd, 1) := by decide +kernel
theorem dJ9_floorMod_7cf53_17 : decode cJ9_floorMod_7cf53 17 = .ok (.ireturn, 1) := by decide +kernel
theorem dJ9_floorMod_7cf53_18 : decode cJ9_floorMod_7cf53 18 = .ok (.iload_n 2, 1) := by decide +kernel
theorem dJ9_floorMod_7cf53_19 : decode cJ9_floorMod_7cf53 19 = .ok (.ireturn, 1) := by decide +kernel
theorem dJ9_abs_0f7a4_0 : decode cJ9_abs_0f7a4 0 = .ok (.iload_n 0, 1) := by decide +kernel
theorem dJ9_abs_0f7a4_1 : decode cJ9_abs_0f7a4 1 = .ok (.ifCond .ge 8, 3) := by decide +kernel
theorem dJ9_abs_0f7a4_4 : decode cJ9_abs_0f7a4 4 = .ok (.iload_n 0, 1) := by decide +kernel
theorem dJ9_abs_0f7a4_5 : decode cJ9_abs_0f7a4 5 = .ok (.ineg, 1) := by decide +kernel
theorem dJ9_abs_0f7a4_6 : decode cJ9_abs_0f7a4 6 = .ok (.goto 4, 3) := by decide +kernel
theorem dJ9_abs_0f7a4_9 : decode cJ9_abs_0f7a4 9 = .ok (.iload_n 0, 1) := by decide +kernel
theorem dJ9_abs_0f7a4_10 : decode cJ9_abs_0f7a4 10 = .ok (.ireturn, 1) := by decide +kernel
theorem dJ9_max_7cf53_0 : decode cJ9_max_7cf53 0 = .ok (.iload_n 0, 1) := by decide +kernel
theorem dJ9_max_7cf53_1 : decode cJ9_max_7cf53 1 = .ok (.iload_n 1, 1) := by decide +kernel
theorem dJ9_max_7cf53_2 : decode cJ9_max_7cf53 2 = .ok (.if_icmp .lt 7, 3) := by decide +kernel
theorem dJ9_max_7cf53_5 : decode cJ9_max_7cf53 5 = .ok (.iload_n 0, 1) := by decide +kernel
theorem dJ9_max_7cf53_6 : decode cJ9_max_7cf53 6 = .ok (.goto 4, 3) := by decide +kernel
theorem dJ9_max_7cf53_9 : decode cJ9_max_7cf53 9 = .ok (.iload_n 1, 1) := by decide +kernel
theorem dJ9_max_7cf53_10 : decode cJ9_max_7cf53 10 = .ok (.ireturn, 1) := by decide +kernel
theorem dJ9_min_7cf53_0 : decode cJ9_min_7cf53 0 = .ok (.iload_n 0, 1) := by decide +kernel
theorem dJ9_min_7cf53_1 : decode cJ9_min_7cf53 1 = .ok (.iload_n 1, 1) := by decide +kernel
theorem dJ9_min_7cf53_2 : decode cJ9_min_7cf53 2 = .ok (.if_icmp .gt 7, 3) := by decide +kernel
theorem dJ9_min_7cf53_5 : decode cJ9_min_7cf53 5 = .ok (.iload_n 0, 1) := by decide +kernel
theorem dJ9_min_7cf53_6 : decode cJ9_min_7cf53 6 = .ok (.goto 4, 3) := by decide +kernel
theorem dJ9_min_7cf53_9 : decode cJ9_min_7cf53 9 = .ok (.iload_n 1, 1) := by decide +kernel
theorem dJ9_min_7cf53_10 : decode cJ9_min_7cf53 10 = .ok (.ireturn, 1) := by decide +kernel
set_option maxRecDepth 20000 in
theorem ggJ7_equals_bbcde_J8_mismatch_05dfe : GoodIn wsJ7_equals_bbcde wsJ8_mismatch_05dfe := goodIn_r _ [4, 5, 6] (by decide +kernel) (by decide +kernel)
set_option maxRecDepth 20000 in
theorem gJ7_equals_bbcde_J8_mismatch_05dfe : GoodIn wsJ7_equals_bbcde (va_wsS RJ7 254 yJ8_mismatch_05dfe wsJ8_mismatch_05dfe) := goodIn_app (goodIn_of _ (by decide +kernel)) ggJ7_equals_bbcde_J8_mismatch_05dfe
theorem dJ7_equals_bbcde_0 : decode cJ7_equals_bbcde 0 = .ok (.aload_n 0, 1) := by decide +kernel
theorem dJ7_equals_bbcde_1 : decode cJ7_equals_bbcde 1 = .ok (.aload_n 1, 1) := by decide +kernel
theorem dJ7_equals_bbcde_2 : decode cJ7_equals_bbcde 2 = .ok (.if_acmp .ne 5, 3) := by decide +kernel
theorem dJ7_equals_bbcde_5 : decode cJ7_equals_bbcde 5 = .ok (.iconst 1, 1) := by decide +kernel
theorem dJ7_equals_bbcde_6 : decode cJ7_equals_bbcde 6 = .ok (.ireturn, 1) := by decide +kernel
theorem dJ7_equals_bbcde_7 : decode cJ7_equals_bbcde 7 = .ok (.aload_n 0, 1) := by decide +kernel
theorem dJ7_equals_bbcde_8 : decode cJ7_equals_bbcde 8 = .ok (.ifnull 7, 3) := by decide +kernel
theorem dJ7_equals_bbcde_11 : decode cJ7_equals_bbcde 11 = .ok (.aload_n 1, 1) := by decide +kernel
theorem dJ7_equals_bbcde_12 : decode cJ7_equals_bbcde 12 = .ok (.ifnonnull 5, 3) := by decide +kernel
theorem dJ7_equals_bbcde_15 : decode cJ7_equals_bbcde 15 = .ok (.iconst 0, 1) := by decide +kernel
theorem dJ7_equals_bbcde_16 : decode cJ7_equals_bbcde 16 = .ok (.ireturn, 1) := by decide +kernel
theorem dJ7_equals_bbcde_17 : decode cJ7_equals_bbcde 17 = .ok (.aload_n 0, 1) := by decide +kernel
theorem dJ7_equals_bbcde_18 : decode cJ7_equals_bbcde 18 = .ok (.arraylength, 1) := by decide +kernel
theorem dJ7_equals_bbcde_19 : decode cJ7_equals_bbcde 19 = .ok (.istore_n 2, 1) := by decide +kernel
theorem dJ7_equals_bbcde_20 : decode cJ7_equals_bbcde 20 = .ok (.aload_n 1, 1) := by decide +kernel
theorem dJ7_equals_bbcde_21 : decode cJ7_equals_bbcde 21 = .ok (.arraylength, 1) := by decide +kernel
theorem dJ7_equals_bbcde_22 : decode cJ7_equals_bbcde 22 = .ok (.iload_n 2, 1) := by decide +kernel
theorem dJ7_equals_bbcde_23 : decode cJ7_equals_bbcde 23 = .ok (.if_icmp .eq 5, 3) := by decide +kernel
theorem dJ7_equals_bbcde_26 : decode cJ7_equals_bbcde 26 = .ok (.iconst 0, 1) := by decide +kernel
theorem dJ7_equals_bbcde_27 : decode cJ7_equals_bbcde 27 = .ok (.ireturn, 1) := by decide +kernel
theorem dJ7_equals_bbcde_28 : decode cJ7_equals_bbcde 28 = .ok (.aload_n 0, 1) := by decide +kernel
theorem dJ7_equals_bbcde_29 : decode cJ7_equals_bbcde 29 = .ok (.aload_n 1, 1) := by decide +kernel
theorem dJ7_equals_bbcde_30 : decode cJ7_equals_bbcde 30 = .ok (.iload_n 2, 1) := by decide +kernel
theorem dJ7_equals_bbcde_31 : decode cJ7_equals_bbcde 31 = .ok (.invokestatic 254, 3) := by decide +kernel
theorem dJ7_equals_bbcde_34 : decode cJ7_equals_bbcde 34 = .ok (.ifCond .ge 7, 3) := by decide +kernel
theorem dJ7_equals_bbcde_37 : decode cJ7_equals_bbcde 37 = .ok (.iconst 1, 1) := by decide +kernel
theorem dJ7_equals_bbcde_38 : decode cJ7_equals_bbcde 38 = .ok (.goto 4, 3) := by decide +kernel
theorem dJ7_equals_bbcde_41 : decode cJ7_equals_bbcde 41 = .ok (.iconst 0, 1) := by decide +kernel
theorem dJ7_equals_bbcde_42 : decode cJ7_equals_bbcde 42 = .ok (.ireturn, 1) := by decide +kernel
set_option maxRecDepth 20000 in
theorem ggJx9a822_getLongUnaligned_f02c6_Jx9a822_makeLong_a216e : GoodIn wsJx9a822_getLongUnaligned_f02c6 wsJx9a822_makeLong_a216e := goodIn_r _ [10, 11, 12, 9, 13, 14, 15, 16, 17, 18] (by decide +kernel) (by decide +kernel)
set_option maxRecDepth 20000 in
theorem gJx9a822_getLongUnaligned_f02c6_Jx9a822_makeLong_a216e : GoodIn wsJx9a822_getLongUnaligned_f02c6 (va_wsS RJx9a822 698 yJx9a822_makeLong_a216e wsJx9a822_makeLong_a216e) := goodIn_app (goodIn_of _ (by decide +kernel)) ggJx9a822_getLongUnaligned_f02c6_Jx9a822_makeLong_a216e
set_option maxRecDepth 20000 in
theorem ggJx9a822_getLongUnaligned_f02c6_Jx9a822_makeLong_4b46d : GoodIn wsJx9a822_getLongUnaligned_f02c6 wsJx9a822_makeLong_4b46d := goodIn_r _ [21, 22, 23, 9, 24, 25, 15, 16, 17, 18] (by decide +kernel) (by decide +kernel)
set_option maxRecDepth 20000 in
theorem gJx9a822_getLongUnaligned_f02c6_Jx9a822_makeLong_4b46d : GoodIn wsJx9a822_getLongUnaligned_f02c6 (va_wsS RJx9a822 704 yJx9a822_makeLong_4b46d wsJx9a822_makeLong_4b46d) := goodIn_app (goodIn_of _ (by decide +kernel)) ggJx9a822_getLongUnaligned_f02c6_Jx9a822_makeLong_4b46d
set_option maxRecDepth 20000 in
theorem ggJx9a822_getLongUnaligned_f02c6_Jx9a822_makeLong_0477f : GoodIn wsJx9a822_getLongUnaligned_f02c6 wsJx9a822_makeLong_0477f := goodIn_r _ [28, 29, 30, 9, 31, 32, 15, 16, 17, 18] (by decide +kernel) (by decide +kernel)
set_option maxRecDepth 20000 in
theorem gJx9a822_getLongUnaligned_f02c6_Jx9a822_makeLong_0477f : GoodIn wsJx9a822_getLongUnaligned_f02c6 (va_wsS RJx9a822 709 yJx9a822_makeLong_0477f wsJx9a822_makeLong_0477f) := goodIn_app (goodIn_of _ (by decide +kernel)) ggJx9a822_getLongUnaligned_f02c6_Jx9a822_makeLong_0477f
theorem dJx9a822_getLongUnaligned_f02c6_0 : decode cJx9a822_getLongUnaligned_f02c6 0 = .ok (.lload_n 2, 1) := by decide +kernel
theorem dJx9a822_getLongUnaligned_f02c6_1 : decode cJx9a822_getLongUnaligned_f02c6 1 = .ok (.ldc2_w 696, 3) := by decide +kernel
theorem dJx9a822_getLongUnaligned_f02c6_4 : decode cJx9a822_getLongUnaligned_f02c6 4 = .ok (.land, 1) := by decide +kernel
theorem dJx9a822_getLongUnaligned_f02c6_5 : decode cJx9a822_getLongUnaligned_f02c6 5 = .ok (.lconst 0, 1) := by decide +kernel
theorem dJx9a822_getLongUnaligned_f02c6_6 : decode cJx9a822_getLongUnaligned_f02c6 6 = .ok (.lcmp, 1) := by decide +kernel
theorem dJx9a822_getLongUnaligned_f02c6_7 : decode cJx9a822_getLongUnaligned_f02c6 7 = .ok (.ifCond .ne 10, 3) := by decide +kernel
theorem dJx9a822_getLongUnaligned_f02c6_10 : decode cJx9a822_getLongUnaligned_f02c6 10 = .ok (.aload_n 0, 1) := by decide +kernel
theorem dJx9a822_getLongUnaligned_f02c6_11 : decode cJx9a822_getLongUnaligned_f02c6 11 = .ok (.aload_n 1, 1) := by decide +kernel
theorem dJx9a822_getLongUnaligned_f02c6_12 : decode cJx9a822_getLongUnaligned_f02c6 12 = .ok (.lload_n 2, 1) := by decide +kernel
theorem dJx9a822_getLongUnaligned_f02c6_13 : decode cJx9a822_getLongUnaligned_f02c6 13 = .ok (.invokevirtual 27, 3) := by decide +kernel
theorem dJx9a822_getLongUnaligned_f02c6_16 : decode cJx9a822_getLongUnaligned_f02c6 16 = .ok (.lreturn, 1) := by decide +kernel
theorem dJx9a822_getLongUnaligned_f02c6_17 : decode cJx9a822_getLongUnaligned_f02c6 17 = .ok (.lload_n 2, 1) := by decide +kernel
theorem dJx9a822_getLongUnaligned_f02c6_18 : decode cJx9a822_getLongUnaligned_f02c6 18 = .ok (.ldc2_w 349, 3) := by decide +kernel
theorem dJx9a822_getLongUnaligned_f02c6_21 : decode cJx9a822_getLongUnaligned_f02c6 21 = .ok (.land, 1) := by decide +kernel
theorem dJx9a822_getLongUnaligned_f02c6_22 : decode cJx9a822_getLongUnaligned_f02c6 22 = .ok (.lconst 0, 1) := by decide +kernel
theorem dJx9a822_getLongUnaligned_f02c6_23 : decode cJx9a822_getLongUnaligned_f02c6 23 = .ok (.lcmp, 1) := by decide +kernel
theorem dJx9a822_getLongUnaligned_f02c6_24 : decode cJx9a822_getLongUnaligned_f02c6 24 = .ok (.ifCond .ne 23, 3) := by decide +kernel
theorem dJx9a822_getLongUnaligned_f02c6_27 : decode cJx9a822_getLongUnaligned_f02c6 27 = .ok (.aload_n 0, 1) := by decide +kernel
theorem dJx9a822_getLongUnaligned_f02c6_28 : decode cJx9a822_getLongUnaligned_f02c6 28 = .ok (.aload_n 1, 1) := by decide +kernel
theorem dJx9a822_getLongUnaligned_f02c6_29 : decode cJx9a822_getLongUnaligned_f02c6 29 = .ok (.lload_n 2, 1) := by decide +kernel
theorem dJx9a822_getLongUnaligned_f02c6_30 : decode cJx9a822_getLongUnaligned_f02c6 30 = .ok (.invokevirtual 17, 3) := by decide +kernel
theorem dJx9a822_getLongUnaligned_f02c6_33 : decode cJx9a822_getLongUnaligned_f02c6 33 = .ok (.aload_n 0, 1) := by decide +kernel
theorem dJx9a822_getLongUnaligned_f02c6_34 : decode cJx9a822_getLongUnaligned_f02c6 34 = .ok (.aload_n 1, 1) := by decide +kernel
theorem dJx9a822_getLongUnaligned_f02c6_35 : decode cJx9a822_getLongUnaligned_f02c6 35 = .ok (.lload_n 2, 1) := by decide +kernel
theorem dJx9a822_getLongUnaligned_f02c6_36 : decode cJx9a822_getLongUnaligned_f02c6 36 = .ok (.ldc2_w 205, 3) := by decide +kernel
theorem dJx9a822_getLongUnaligned_f02c6_39 : decode cJx9a822_getLongUnaligned_f02c6 39 = .ok (.ladd, 1) := by decide +kernel
theorem dJx9a822_getLongUnaligned_f02c6_40 : decode cJx9a822_getLongUnaligned_f02c6 40 = .ok (.invokevirtual 17, 3) := by decide +kernel
theorem dJx9a822_getLongUnaligned_f02c6_43 : decode cJx9a822_getLongUnaligned_f02c6 43 = .ok (.invokestatic 698, 3) := by decide +kernel
theorem dJx9a822_getLongUnaligned_f02c6_46 : decode cJx9a822_getLongUnaligned_f02c6 46 = .ok (.lreturn, 1) := by decide +kernel
theorem dJx9a822_getLongUnaligned_f02c6_47 : decode cJx9a822_getLongUnaligned_f02c6 47 = .ok (.lload_n 2, 1) := by decide +kernel
theorem dJx9a822_getLongUnaligned_f02c6_48 : decode cJx9a822_getLongUnaligned_f02c6 48 = .ok (.lconst 1, 1) := by decide +kernel
theorem dJx9a822_getLongUnaligned_f02c6_49 : decode cJx9a822_getLongUnaligned_f02c6 49 = .ok (.land, 1) := by decide +kernel
theorem dJx9a822_getLongUnaligned_f02c6_50 : decode cJx9a822_getLongUnaligned_f02c6 50 = .ok (.lconst 0, 1) := by decide +kernel
theorem dJx9a822_getLongUnaligned_f02c6_51 : decode cJx9a822_getLongUnaligned_f02c6 51 = .ok (.lcmp, 1) := by decide +kernel
theorem dJx9a822_getLongUnaligned_f02c6_52 : decode cJx9a822_getLongUnaligned_f02c6 52 = .ok (.ifCond .ne 43, 3) := by decide +kernel
theorem dJx9a822_getLongUnaligned_f02c6_55 : decode cJx9a822_getLongUnaligned_f02c6 55 = .ok (.aload_n 0, 1) := by decide +kernel
theorem dJx9a822_getLongUnaligned_f02c6_56 : decode cJx9a822_getLongUnaligned_f02c6 56 = .ok (.aload_n 1, 1) := by decide +kernel
theorem dJx9a822_getLongUnaligned_f02c6_57 : decode cJx9a822_getLongUnaligned_f02c6 57 = .ok (.lload_n 2, 1) := by decide +kernel
theorem dJx9a822_getLongUnaligned_f02c6_58 : decode cJx9a822_getLongUnaligned_f02c6 58 = .ok (.invokevirtual 47, 3) := by decide +kernel
theorem dJx9a822_getLongUnaligned_f02c6_61 : decode cJx9a822_getLongUnaligned_f02c6 61 = .ok (.aload_n 0, 1) := by decide +kernel
theorem dJx9a822_getLongUnaligned_f02c6_62 : decode cJx9a822_getLongUnaligned_f02c6 62 = .ok (.aload_n 1, 1) := by decide +kernel
theorem dJx9a822_getLongUnaligned_f02c6_63 : decode cJx9a822_getLongUnaligned_f02c6 63 = .ok (.lload_n 2, 1) := by decide +kernel
theorem dJx9a822_getLongUnaligned_f02c6_64 : decode cJx9a822_getLongUnaligned_f02c6 64 = .ok (.ldc2_w 203, 3) := by decide +kernel
theorem dJx9a822_getLongUnaligned_f02c6_67 : decode cJx9a822_getLongUnaligned_f02c6 67 = .ok (.ladd, 1) := by decide +kernel
theorem dJx9a822_getLongUnaligned_f02c6_68 : decode cJx9a822_getLongUnaligned_f02c6 68 = .ok (.invokevirtual 47, 3) := by decide +kernel
theorem dJx9a822_getLongUnaligned_f02c6_71 : decode cJx9a822_getLongUnaligned_f02c6 71 = .ok (.aload_n 0, 1) := by decide +kernel
theorem dJx9a822_getLongUnaligned_f02c6_72 : decode cJx9a822_getLongUnaligned_f02c6 72 = .ok (.aload_n 1, 1) := by decide +kernel
theorem dJx9a822_getLongUnaligned_f02c6_73 : decode cJx9a822_getLongUnaligned_f02c6 73 = .ok (.lload_n 2, 1) := by decide +kernel
theorem dJx9a822_getLongUnaligned_f02c6_74 : decode cJx9a822_getLongUnaligned_f02c6 74 = .ok (.ldc2_w 205, 3) := by decide +kernel
theorem dJx9a822_getLongUnaligned_f02c6_77 : decode cJx9a822_getLongUnaligned_f02c6 77 = .ok (.ladd, 1) := by decide +kernel
theorem dJx9a822_getLongUnaligned_f02c6_78 : decode cJx9a822_getLongUnaligned_f02c6 78 = .ok (.invokevirtual 47, 3) := by decide +kernel
theorem dJx9a822_getLongUnaligned_f02c6_81 : decode cJx9a822_getLongUnaligned_f02c6 81 = .ok (.aload_n 0, 1) := by decide +kernel
theorem dJx9a822_getLongUnaligned_f02c6_82 : decode cJx9a822_getLongUnaligned_f02c6 82 = .ok (.aload_n 1, 1) := by decide +kernel
theorem dJx9a822_getLongUnaligned_f02c6_83 : decode cJx9a822_getLongUnaligned_f02c6 83 = .ok (.lload_n 2, 1) := by decide +kernel
theorem dJx9a822_getLongUnaligned_f02c6_84 : decode cJx9a822_getLongUnaligned_f02c6 84 = .ok (.ldc2_w 702, 3) := by decide +kernel
theorem dJx9a822_getLongUnaligned_f02c6_87 : decode cJx9a822_getLongUnaligned_f02c6 87 = .ok (.ladd, 1) := by decide +kernel
theorem dJx9a822_getLongUnaligned_f02c6_88 : decode cJx9a822_getLongUnaligned_f02c6 88 = .ok (.invokevirtual 47, 3) := by decide +kernel
theorem dJx9a822_getLongUnaligned_f02c6_91 : decode cJx9a822_getLongUnaligned_f02c6 91 = .ok (.invokestatic 704, 3) := by decide +kernel
theorem dJx9a822_getLongUnaligned_f02c6_94 : decode cJx9a822_getLongUnaligned_f02c6 94 = .ok (.lreturn, 1) := by decide +kernel
theorem dJx9a822_getLongUnaligned_f02c6_95 : decode cJx9a822_getLongUnaligned_f02c6 95 = .ok (.aload_n 0, 1) := by decide +kernel
theorem dJx9a822_getLongUnaligned_f02c6_96 : decode cJx9a822_getLongUnaligned_f02c6 96 = .ok (.aload_n 1, 1) := by decide +kernel
theorem dJx9a822_getLongUnaligned_f02c6_97 : decode cJx9a822_getLongUnaligned_f02c6 97 = .ok (.lload_n 2, 1) := by decide +kernel
theorem dJx9a822_getLongUnaligned_f02c6_98 : decode cJx9a822_getLongUnaligned_f02c6 98 = .ok (.invokevirtual 39, 3) := by decide +kernel
theorem dJx9a822_getLongUnaligned_f02c6_101 : decode cJx9a822_getLongUnaligned_f02c6 101 = .ok (.aload_n 0, 1) := by decide +kernel
theorem dJx9a822_getLongUnaligned_f02c6_102 : decode cJx9a822_getLongUnaligned_f02c6 102 = .ok (.aload_n 1, 1) := by decide +kernel
theorem dJx9a822_getLongUnaligned_f02c6_103 : decode cJx9a822_getLongUnaligned_f02c6 103 = .ok (.lload_n 2, 1) := by decide +kernel
theorem dJx9a822_getLongUnaligned_f02c6_104 : decode cJx9a822_getLongUnaligned_f02c6 104 = .ok (.lconst 1, 1) := by decide +kernel
theorem dJx9a822_getLongUnaligned_f02c6_105 : decode cJx9a822_getLongUnaligned_f02c6 105 = .ok (.ladd, 1) := by decide +kernel
theorem dJx9a822_getLongUnaligned_f02c6_106 : decode cJx9a822_getLongUnaligned_f02c6 106 = .ok (.invokevirtual 39, 3) := by decide +kernel
theorem dJx9a822_getLongUnaligned_f02c6_109 : decode cJx9a822_getLongUnaligned_f02c6 109 = .ok (.aload_n 0, 1) := by decide +kernel
theorem dJx9a822_getLongUnaligned_f02c6_110 : decode cJx9a822_getLongUnaligned_f02c6 110 = .ok (.aload_n 1, 1) := by decide +kernel
theorem dJx9a822_getLongUnaligned_f02c6_111 : decode cJx9a822_getLongUnaligned_f02c6 111 = .ok (.lload_n 2, 1) := by decide +kernel
theorem dJx9a822_getLongUnaligned_f02c6_112 : decode cJx9a822_getLongUnaligned_f02c6 112 = .ok (.ldc2_w 203, 3) := by decide +kernel
theorem dJx9a822_getLongUnaligned_f02c6_115 : decode cJx9a822_getLongUnaligned_f02c6 115 = .ok (.ladd, 1) := by decide +kernel
theorem dJx9a822_getLongUnaligned_f02c6_116 : decode cJx9a822_getLongUnaligned_f02c6 116 = .ok (.invokevirtual 39, 3) := by decide +kernel
theorem dJx9a822_getLongUnaligned_f02c6_119 : decode cJx9a822_getLongUnaligned_f02c6 119 = .ok (.aload_n 0, 1) := by decide +kernel
theorem dJx9a822_getLongUnaligned_f02c6_120 : decode cJx9a822_getLongUnaligned_f02c6 120 = .ok (.aload_n 1, 1) := by decide +kernel
theorem dJx9a822_getLongUnaligned_f02c6_121 : decode cJx9a822_getLongUnaligned_f02c6 121 = .ok (.lload_n 2, 1) := by decide +kernel
theorem dJx9a822_getLongUnaligned_f02c6_122 : decode cJx9a822_getLongUnaligned_f02c6 122 = .ok (.ldc2_w 349, 3) := by decide +kernel
theorem dJx9a822_getLongUnaligned_f02c6_125 : decode cJx9a822_getLongUnaligned_f02c6 125 = .ok (.ladd, 1) := by decide +kernel
theorem dJx9a822_getLongUnaligned_f02c6_126 : decode cJx9a822_getLongUnaligned_f02c6 126 = .ok (.invokevirtual 39, 3) := by decide +kernel
theorem dJx9a822_getLongUnaligned_f02c6_129 : decode cJx9a822_getLongUnaligned_f02c6 129 = .ok (.aload_n 0, 1) := by decide +kernel
theorem dJx9a822_getLongUnaligned_f02c6_130 : decode cJx9a822_getLongUnaligned_f02c6 130 = .ok (.aload_n 1, 1) := by decide +kernel
theorem dJx9a822_getLongUnaligned_f02c6_131 : decode cJx9a822_getLongUnaligned_f02c6 131 = .ok (.lload_n 2, 1) := by decide +kernel
theorem dJx9a822_getLongUnaligned_f02c6_132 : decode cJx9a822_getLongUnaligned_f02c6 132 = .ok (.ldc2_w 205, 3) := by decide +kernel
theorem dJx9a822_getLongUnaligned_f02c6_135 : decode cJx9a822_getLongUnaligned_f02c6 135 = .ok (.ladd, 1) := by decide +kernel
theorem dJx9a822_getLongUnaligned_f02c6_136 : decode cJx9a822_getLongUnaligned_f02c6 136 = .ok (.invokevirtual 39, 3) := by decide +kernel
theorem dJx9a822_getLongUnaligned_f02c6_139 : decode cJx9a822_getLongUnaligned_f02c6 139 = .ok (.aload_n 0, 1) := by decide +kernel
theorem dJx9a822_getLongUnaligned_f02c6_140 : decode cJx9a822_getLongUnaligned_f02c6 140 = .ok (.aload_n 1, 1) := by decide +kernel
theorem dJx9a822_getLongUnaligned_f02c6_141 : decode cJx9a822_getLongUnaligned_f02c6 141 = .ok (.lload_n 2, 1) := by decide +kernel
theorem dJx9a822_getLongUnaligned_f02c6_142 : decode cJx9a822_getLongUnaligned_f02c6 142 = .ok (.ldc2_w 707, 3) := by decide +kernel
theorem dJx9a822_getLongUnaligned_f02c6_145 : decode cJx9a822_getLongUnaligned_f02c6 145 = .ok (.ladd, 1) := by decide +kernel
theorem dJx9a822_getLongUnaligned_f02c6_146 : decode cJx9a822_getLongUnaligned_f02c6 146 = .ok (.invokevirtual 39, 3) := by decide +kernel
theorem dJx9a822_getLongUnaligned_f02c6_149 : decode cJx9a822_getLongUnaligned_f02c6 149 = .ok (.aload_n 0, 1) := by decide +kernel
theorem dJx9a822_getLongUnaligned_f02c6_150 : decode cJx9a822_getLongUnaligned_f02c6 150 = .ok (.aload_n 1, 1) := by decide +kernel
theorem dJx9a822_getLongUnaligned_f02c6_151 : decode cJx9a822_getLongUnaligned_f02c6 151 = .ok (.lload_n 2, 1) := by decide +kernel
theorem dJx9a822_getLongUnaligned_f02c6_152 : decode cJx9a822_getLongUnaligned_f02c6 152 = .ok (.ldc2_w 702, 3) := by decide +kernel
theorem dJx9a822_getLongUnaligned_f02c6_155 : decode cJx9a822_getLongUnaligned_f02c6 155 = .ok (.ladd, 1) := by decide +kernel
theorem dJx9a822_getLongUnaligned_f02c6_156 : decode cJx9a822_getLongUnaligned_f02c6 156 = .ok (.invokevirtual 39, 3) := by decide +kernel
theorem dJx9a822_getLongUnaligned_f02c6_159 : decode cJx9a822_getLongUnaligned_f02c6 159 = .ok (.aload_n 0, 1) := by decide +kernel
theorem dJx9a822_getLongUnaligned_f02c6_160 : decode cJx9a822_getLongUnaligned_f02c6 160 = .ok (.aload_n 1, 1) := by decide +kernel
theorem dJx9a822_getLongUnaligned_f02c6_161 : decode cJx9a822_getLongUnaligned_f02c6 161 = .ok (.lload_n 2, 1) := by decide +kernel
theorem dJx9a822_getLongUnaligned_f02c6_162 : decode cJx9a822_getLongUnaligned_f02c6 162 = .ok (.ldc2_w 696, 3) := by decide +kernel
theorem dJx9a822_getLongUnaligned_f02c6_165 : decode cJx9a822_getLongUnaligned_f02c6 165 = .ok (.ladd, 1) := by decide +kernel
theorem dJx9a822_getLongUnaligned_f02c6_166 : decode cJx9a822_getLongUnaligned_f02c6 166 = .ok (.invokevirtual 39, 3) := by decide +kernel
theorem dJx9a822_getLongUnaligned_f02c6_169 : decode cJx9a822_getLongUnaligned_f02c6 169 = .ok (.invokestatic 709, 3) := by decide +kernel
theorem dJx9a822_getLongUnaligned_f02c6_172 : decode cJx9a822_getLongUnaligned_f02c6 172 = .ok (.lreturn, 1) := by decide +kernel
set_option maxRecDepth 20000 in
theorem ggJx9a822_getIntUnaligned_25a47_Jx9a822_makeInt_4e28c : GoodIn wsJx9a822_getIntUnaligned_25a47 wsJx9a822_makeInt_4e28c := goodIn_r _ [6, 7, 8, 5, 9, 10, 11, 12, 13, 14] (by decide +kernel) (by decide +kernel)
set_option maxRecDepth 20000 in
theorem gJx9a822_getIntUnaligned_25a47_Jx9a822_makeInt_4e28c : GoodIn wsJx9a822_getIntUnaligned_25a47 (va_wsS RJx9a822 719 yJx9a822_makeInt_4e28c wsJx9a822_makeInt_4e28c) := goodIn_app (goodIn_of _ (by decide +kernel)) ggJx9a822_getIntUnaligned_25a47_Jx9a822_makeInt_4e28c
set_option maxRecDepth 20000 in
theorem ggJx9a822_getIntUnaligned_25a47_Jx9a822_makeInt_86272 : GoodIn wsJx9a822_getIntUnaligned_25a47 wsJx9a822_makeInt_86272 := goodIn_r _ [17, 18, 19, 5, 20, 11, 12, 13, 14] (by decide +kernel) (by decide +kernel)
set_option maxRecDepth 20000 in
theorem gJx9a822_getIntUnaligned_25a47_Jx9a822_makeInt_86272 : GoodIn wsJx9a822_getIntUnaligned_25a47 (va_wsS RJx9a822 723 yJx9a822_makeInt_86272 wsJx9a822_makeInt_86272) := goodIn_app (goodIn_of _ (by decide +kernel)) ggJx9a822_getIntUnaligned_25a47_Jx9a822_makeInt_86272
theorem dJx9a822_getIntUnaligned_25a47_0 : decode cJx9a822_getIntUnaligned_25a47 0 = .ok (.lload_n 2, 1) := by decide +kernel
theorem dJx9a822_getIntUnaligned_25a47_1 : decode cJx9a822_getIntUnaligned_25a47 1 = .ok (.ldc2_w 349, 3) := by decide +kernel
theorem dJx9a822_getIntUnaligned_25a47_4 : decode cJx9a822_getIntUnaligned_25a47 4 = .ok (.land, 1) := by decide +kernel
theorem dJx9a822_getIntUnaligned_25a47_5 : decode cJx9a822_getIntUnaligned_25a47 5 = .ok (.lconst 0, 1) := by decide +kernel
theorem dJx9a822_getIntUnaligned_25a47_6 : decode cJx9a822_getIntUnaligned_25a47 6 = .ok (.lcmp, 1) := by decide +kernel
theorem dJx9a822_getIntUnaligned_25a47_7 : decode cJx9a822_getIntUnaligned_25a47 7 = .ok (.ifCond .ne 10, 3) := by decide +kernel
theorem dJx9a822_getIntUnaligned_25a47_10 : decode cJx9a822_getIntUnaligned_25a47 10 = .ok (.aload_n 0, 1) := by decide +kernel
theorem dJx9a822_getIntUnaligned_25a47_11 : decode cJx9a822_getIntUnaligned_25a47 11 = .ok (.aload_n 1, 1) := by decide +kernel
theorem dJx9a822_getIntUnaligned_25a47_12 : decode cJx9a822_getIntUnaligned_25a47 12 = .ok (.lload_n 2, 1) := by decide +kernel
theorem dJx9a822_getIntUnaligned_25a47_13 : decode cJx9a822_getIntUnaligned_25a47 13 = .ok (.invokevirtual 17, 3) := by decide +kernel
theorem dJx9a822_getIntUnaligned_25a47_16 : decode cJx9a822_getIntUnaligned_25a47 16 = .ok (.ireturn, 1) := by decide +kernel
theorem dJx9a822_getIntUnaligned_25a47_17 : decode cJx9a822_getIntUnaligned_25a47 17 = .ok (.lload_n 2, 1) := by decide +kernel
theorem dJx9a822_getIntUnaligned_25a47_18 : decode cJx9a822_getIntUnaligned_25a47 18 = .ok (.lconst 1, 1) := by decide +kernel
theorem dJx9a822_getIntUnaligned_25a47_19 : decode cJx9a822_getIntUnaligned_25a47 19 = .ok (.land, 1) := by decide +kernel
theorem dJx9a822_getIntUnaligned_25a47_20 : decode cJx9a822_getIntUnaligned_25a47 20 = .ok (.lconst 0, 1) := by decide +kernel
theorem dJx9a822_getIntUnaligned_25a47_21 : decode cJx9a822_getIntUnaligned_25a47 21 = .ok (.lcmp, 1) := by decide +kernel
theorem dJx9a822_getIntUnaligned_25a47_22 : decode cJx9a822_getIntUnaligned_25a47 22 = .ok (.ifCond .ne 23, 3) := by decide +kernel
theorem dJx9a822_getIntUnaligned_25a47_25 : decode cJx9a822_getIntUnaligned_25a47 25 = .ok (.aload_n 0, 1) := by decide +kernel
theorem dJx9a822_getIntUnaligned_25a47_26 : decode cJx9a822_getIntUnaligned_25a47 26 = .ok (.aload_n 1, 1) := by decide +kernel
theorem dJx9a822_getIntUnaligned_25a47_27 : decode cJx9a822_getIntUnaligned_25a47 27 = .ok (.lload_n 2, 1) := by decide +kernel
theorem dJx9a822_getIntUnaligned_25a47_28 : decode cJx9a822_getIntUnaligned_25a47 28 = .ok (.invokevirtual 47, 3) := by decide +kernel
theorem dJx9a822_getIntUnaligned_25a47_31 : decode cJx9a822_getIntUnaligned_25a47 31 = .ok (.aload_n 0, 1) := by decide +kernel
theorem dJx9a822_getIntUnaligned_25a47_32 : decode cJx9a822_getIntUnaligned_25a47 32 = .ok (.aload_n 1, 1) := by decide +kernel
theorem dJx9a822_getIntUnaligned_25a47_33 : decode cJx9a822_getIntUnaligned_25a47 33 = .ok (.lload_n 2, 1) := by decide +kernel
theorem dJx9a822_getIntUnaligned_25a47_34 : decode cJx9a822_getIntUnaligned_25a47 34 = .ok (.ldc2_w 203, 3) := by decide +kernel
theorem dJx9a822_getIntUnaligned_25a47_37 : decode cJx9a822_getIntUnaligned_25a47 37 = .ok (.ladd, 1) := by decide +kernel
theorem dJx9a822_getIntUnaligned_25a47_38 : decode cJx9a822_getIntUnaligned_25a47 38 = .ok (.invokevirtual 47, 3) := by decide +kernel
theorem dJx9a822_getIntUnaligned_25a47_41 : decode cJx9a822_getIntUnaligned_25a47 41 = .ok (.invokestatic 719, 3) := by decide +kernel
theorem dJx9a822_getIntUnaligned_25a47_44 : decode cJx9a822_getIntUnaligned_25a47 44 = .ok (.ireturn, 1) := by decide +kernel
theorem dJx9a822_getIntUnaligned_25a47_45 : decode cJx9a822_getIntUnaligned_25a47 45 = .ok (.aload_n 0, 1) := by decide +kernel
theorem dJx9a822_getIntUnaligned_25a47_46 : decode cJx9a822_getIntUnaligned_25a47 46 = .ok (.aload_n 1, 1) := by decide +kernel
theorem dJx9a822_getIntUnaligned_25a47_47 : decode cJx9a822_getIntUnaligned_25a47 47 = .ok (.lload_n 2, 1) := by decide +kernel
theorem dJx9a822_getIntUnaligned_25a47_48 : decode cJx9a822_getIntUnaligned_25a47 48 = .ok (.invokevirtual 39, 3) := by decide +kernel
theorem dJx9a822_getIntUnaligned_25a47_51 : decode cJx9a822_getIntUnaligned_25a47 51 = .ok (.aload_n 0, 1) := by decide +kernel
theorem dJx9a822_getIntUnaligned_25a47_52 : decode cJx9a822_getIntUnaligned_25a47 52 = .ok (.aload_n 1, 1) := by decide +kernel
theorem dJx9a822_getIntUnaligned_25a47_53 : decode cJx9a822_getIntUnaligned_25a47 53 = .ok (.lload_n 2, 1) := by decide +kernel
theorem dJx9a822_getIntUnaligned_25a47_54 : decode cJx9a822_getIntUnaligned_25a47 54 = .ok (.lconst 1, 1) := by decide +kernel
theorem dJx9a822_getIntUnaligned_25a47_55 : decode cJx9a822_getIntUnaligned_25a47 55 = .ok (.ladd, 1) := by decide +kernel
theorem dJx9a822_getIntUnaligned_25a47_56 : decode cJx9a822_getIntUnaligned_25a47 56 = .ok (.invokevirtual 39, 3) := by decide +kernel
theorem dJx9a822_getIntUnaligned_25a47_59 : decode cJx9a822_getIntUnaligned_25a47 59 = .ok (.aload_n 0, 1) := by decide +kernel
theorem dJx9a822_getIntUnaligned_25a47_60 : decode cJx9a822_getIntUnaligned_25a47 60 = .ok (.aload_n 1, 1) := by decide +kernel
theorem dJx9a822_getIntUnaligned_25a47_61 : decode cJx9a822_getIntUnaligned_25a47 61 = .ok (.lload_n 2, 1) := by decide +kernel
theorem dJx9a822_getIntUnaligned_25a47_62 : decode cJx9a822_getIntUnaligned_25a47 62 = .ok (.ldc2_w 203, 3) := by decide +kernel
theorem dJx9a822_getIntUnaligned_25a47_65 : decode cJx9a822_getIntUnaligned_25a47 65 = .ok (.ladd, 1) := by decide +kernel
theorem dJx9a822_getIntUnaligned_25a47_66 : decode cJx9a822_getIntUnaligned_25a47 66 = .ok (.invokevirtual 39, 3) := by decide +kernel
theorem dJx9a822_getIntUnaligned_25a47_69 : decode cJx9a822_getIntUnaligned_25a47 69 = .ok (.aload_n 0, 1) := by decide +kernel
theorem dJx9a822_getIntUnaligned_25a47_70 : decode cJx9a822_getIntUnaligned_25a47 70 = .ok (.aload_n 1, 1) := by decide +kernel
theorem dJx9a822_getIntUnaligned_25a47_71 : decode cJx9a822_getIntUnaligned_25a47 71 = .ok (.lload_n 2, 1) := by decide +kernel
theorem dJx9a822_getIntUnaligned_25a47_72 : decode cJx9a822_getIntUnaligned_25a47 72 = .ok (.ldc2_w 349, 3) := by decide +kernel
theorem dJx9a822_getIntUnaligned_25a47_75 : decode cJx9a822_getIntUnaligned_25a47 75 = .ok (.ladd, 1) := by decide +kernel
theorem dJx9a822_getIntUnaligned_25a47_76 : decode cJx9a822_getIntUnaligned_25a47 76 = .ok (.invokevirtual 39, 3) := by decide +kernel
theorem dJx9a822_getIntUnaligned_25a47_79 : decode cJx9a822_getIntUnaligned_25a47 79 = .ok (.invokestatic 723, 3) := by decide +kernel
theorem dJx9a822_getIntUnaligned_25a47_82 : decode cJx9a822_getIntUnaligned_25a47 82 = .ok (.ireturn, 1) := by decide +kernel
theorem dJx9a822_pickPos_7cf53_0 : decode cJx9a822_pickPos_7cf53 0 = .ok (.getstatic 351, 3) := by decide +kernel
theorem dJx9a822_pickPos_7cf53_3 : decode cJx9a822_pickPos_7cf53 3 = .ok (.ifCond .eq 9, 3) := by decide +kernel
theorem dJx9a822_pickPos_7cf53_6 : decode cJx9a822_pickPos_7cf53 6 = .ok (.iload_n 0, 1) := by decide +kernel
theorem dJx9a822_pickPos_7cf53_7 : decode cJx9a822_pickPos_7cf53 7 = .ok (.iload_n 1, 1) := by decide +kernel
theorem dJx9a822_pickPos_7cf53_8 : decode cJx9a822_pickPos_7cf53 8 = .ok (.isub, 1) := by decide +kernel
theorem dJx9a822_pickPos_7cf53_9 : decode cJx9a822_pickPos_7cf53 9 = .ok (.goto 4, 3) := by decide +kernel
theorem dJx9a822_pickPos_7cf53_12 : decode cJx9a822_pickPos_7cf53 12 = .ok (.iload_n 1, 1) := by decide +kernel
theorem dJx9a822_pickPos_7cf53_13 : decode cJx9a822_pickPos_7cf53 13 = .ok (.ireturn, 1) := by decide +kernel
set_option maxRecDepth 20000 in
theorem ggJx9a822_makeLong_0477f_Jx9a822_toUnsignedLong_c5be9 : GoodIn wsJx9a822_makeLong_0477f wsJx9a822_toUnsignedLong_c5be9 := goodIn_r _ [4, 5] (by decide +kernel) (by decide +kernel)
set_option maxRecDepth 20000 in
theorem gJx9a822_makeLong_0477f_Jx9a822_toUnsignedLong_c5be9 : GoodIn wsJx9a822_makeLong_0477f (va_wsS RJx9a822 781 yJx9a822_toUnsignedLong_c5be9 wsJx9a822_toUnsignedLong_c5be9) := goodIn_app (goodIn_of _ (by decide +kernel)) ggJx9a822_makeLong_0477f_Jx9a822_toUnsignedLong_c5be9
set_option maxRecDepth 20000 in
theorem ggJx9a822_makeLong_0477f_Jx9a822_pickPos_7cf53 : GoodIn wsJx9a822_makeLong_0477f wsJx9a822_pickPos_7cf53 := goodIn_r _ [8, 9] (by decide +kernel) (by decide +kernel)
set_option maxRecDepth 20000 in
theorem gJx9a822_makeLong_0477f_Jx9a822_pickPos_7cf53 : GoodIn wsJx9a822_makeLong_0477f (va_wsS RJx9a822 784 yJx9a822_pickPos_7cf53 wsJx9a822_pickPos_7cf53) := goodIn_app (goodIn_of _ (by decide +kernel)) ggJx9a822_makeLong_0477f_Jx9a822_pickPos_7cf53
theorem dJx9a822_makeLong_0477f_0 : decode cJx9a822_makeLong_0477f 0 = .ok (.iload_n 0, 1) := by decide +kernel
theorem dJx9a822_makeLong_0477f_1 : decode cJx9a822_makeLong_0477f 1 = .ok (.invokestatic 781, 3) := by decide +kernel
theorem dJx9a822_makeLong_0477f_4 : decode cJx9a822_makeLong_0477f 4 = .ok (.bipush 56, 2) := by decide +kernel
theorem dJx9a822_makeLong_0477f_6 : decode cJx9a822_makeLong_0477f 6 = .ok (.iconst 0, 1) := by decide +kernel
theorem dJx9a822_makeLong_0477f_7 : decode cJx9a822_makeLong_0477f 7 = .ok (.invokestatic 784, 3) := by decide +kernel
theorem dJx9a822_makeLong_0477f_10 : decode cJx9a822_makeLong_0477f 10 = .ok (.lshl, 1) := by decide +kernel
theorem dJx9a822_makeLong_0477f_11 : decode cJx9a822_makeLong_0477f 11 = .ok (.iload_n 1, 1) := by decide +kernel
theorem dJx9a822_makeLong_0477f_12 : decode cJx9a822_makeLong_0477f 12 = .ok (.invokestatic 781, 3) := by decide +kernel
theorem dJx9a822_makeLong_0477f_15 : decode cJx9a822_makeLong_0477f 15 = .ok (.bipush 56, 2) := by decide +kernel
theorem dJx9a822_makeLong_0477f_17 : decode cJx9a822_makeLong_0477f 17 = .ok (.bipush 8, 2) := by decide +kernel
theorem dJx9a822_makeLong_0477f_19 : decode cJx9a822_makeLong_0477f 19 = .ok (.invokestatic 784, 3) := by decide +kernel
theorem dJx9a822_makeLong_0477f_22 : decode cJx9a822_makeLong_0477f 22 = .ok (.lshl, 1) := by decide +kernel
theorem dJx9a822_makeLong_0477f_23 : decode cJx9a822_makeLong_0477f 23 = .ok (.lor, 1) := by decide +kernel
theorem dJx9a822_makeLong_0477f_24 : decode cJx9a822_makeLong_0477f 24 = .ok (.iload_n 2, 1) := by decide +kernel
theorem dJx9a822_makeLong_0477f_25 : decode cJx9a822_makeLong_0477f 25 = .ok (.invokestatic 781, 3) := by decide +kernel
theorem dJx9a822_makeLong_0477f_28 : decode cJx9a822_makeLong_0477f 28 = .ok (.bipush 56, 2) := by decide +kernel
theorem dJx9a822_makeLong_0477f_30 : decode cJx9a822_makeLong_0477f 30 = .ok (.bipush 16, 2) := by decide +kernel
theorem dJx9a822_makeLong_0477f_32 : decode cJx9a822_makeLong_0477f 32 = .ok (.invokestatic 784, 3) := by decide +kernel
theorem dJx9a822_makeLong_0477f_35 : decode cJx9a822_makeLong_0477f 35 = .ok (.lshl, 1) := by decide +kernel
theorem dJx9a822_makeLong_0477f_36 : decode cJx9a822_makeLong_0477f 36 = .ok (.lor, 1) := by decide +kernel
theorem dJx9a822_makeLong_0477f_37 : decode cJx9a822_makeLong_0477f 37 = .ok (.iload_n 3, 1) := by decide +kernel
theorem dJx9a822_makeLong_0477f_38 : decode cJx9a822_makeLong_0477f 38 = .ok (.invokestatic 781, 3) := by decide +kernel
theorem dJx9a822_makeLong_0477f_41 : decode cJx9a822_makeLong_0477f 41 = .ok (.bipush 56, 2) := by decide +kernel
theorem dJx9a822_makeLong_0477f_43 : decode cJx9a822_makeLong_0477f 43 = .ok (.bipush 24, 2) := by decide +kernel
theorem dJx9a822_makeLong_0477f_45 : decode cJx9a822_makeLong_0477f 45 = .ok (.invokestatic 784, 3) := by decide +kernel
theorem dJx9a822_makeLong_0477f_48 : decode cJx9a822_makeLong_0477f 48 = .ok (.lshl, 1) := by decide +kernel
theorem dJx9a822_makeLong_0477f_49 : decode cJx9a822_makeLong_0477f 49 = .ok (.lor, 1) := by decide +kernel
theorem dJx9a822_makeLong_0477f_50 : decode cJx9a822_makeLong_0477f 50 = .ok (.iload 4, 2) := by decide +kernel
theorem dJx9a822_makeLong_0477f_52 : decode cJx9a822_makeLong_0477f 52 = .ok (.invokestatic 781, 3) := by decide +kernel
theorem dJx9a822_makeLong_0477f_55 : decode cJx9a822_makeLong_0477f 55 = .ok (.bipush 56, 2) := by decide +kernel
theorem dJx9a822_makeLong_0477f_57 : decode cJx9a822_makeLong_0477f 57 = .ok (.bipush 32, 2) := by decide +kernel
theorem dJx9a822_makeLong_0477f_59 : decode cJx9a822_makeLong_0477f 59 = .ok (.invokestatic 784, 3) := by decide +kernel
theorem dJx9a822_makeLong_0477f_62 : decode cJx9a822_makeLong_0477f 62 = .ok (.lshl, 1) := by decide +kernel
theorem dJx9a822_makeLong_0477f_63 : decode cJx9a822_makeLong_0477f 63 = .ok (.lor, 1) := by decide +kernel
theorem dJx9a822_makeLong_0477f_64 : decode cJx9a822_makeLong_0477f 64 = .ok (.iload 5, 2) := by decide +kernel
theorem dJx9a822_makeLong_0477f_66 : decode cJx9a822_makeLong_0477f 66 = .ok (.invokestatic 781, 3) := by decide +kernel
theorem dJx9a822_makeLong_0477f_69 : decode cJx9a822_makeLong_0477f 69 = .ok (.bipush 56, 2) := by decide +kernel
theorem dJx9a822_makeLong_0477f_71 : decode cJx9a822_makeLong_0477f 71 = .ok (.bipush 40, 2) := by decide +kernel
theorem dJx9a822_makeLong_0477f_73 : decode cJx9a822_makeLong_0477f 73 = .ok (.invokestatic 784, 3) := by decide +kernel
theorem dJx9a822_makeLong_0477f_76 : decode cJx9a822_makeLong_0477f 76 = .ok (.lshl, 1) := by decide +kernel
theorem dJx9a822_makeLong_0477f_77 : decode cJx9a822_makeLong_0477f 77 = .ok (.lor, 1) := by decide +kernel
theorem dJx9a822_makeLong_0477f_78 : decode cJx9a822_makeLong_0477f 78 = .ok (.iload 6, 2) := by decide +kernel
theorem dJx9a822_makeLong_0477f_80 : decode cJx9a822_makeLong_0477f 80 = .ok (.invokestatic 781, 3) := by decide +kernel
theorem dJx9a822_makeLong_0477f_83 : decode cJx9a822_makeLong_0477f 83 = .ok (.bipush 56, 2) := by decide +kernel
theorem dJx9a822_makeLong_0477f_85 : decode cJx9a822_makeLong_0477f 85 = .ok (.bipush 48, 2) := by decide +kernel
theorem dJx9a822_makeLong_0477f_87 : decode cJx9a822_makeLong_0477f 87 = .ok (.invokestatic 784, 3) := by decide +kernel
theorem dJx9a822_makeLong_0477f_90 : decode cJx9a822_makeLong_0477f 90 = .ok (.lshl, 1) := by decide +kernel
theorem dJx9a822_makeLong_0477f_91 : decode cJx9a822_makeLong_0477f 91 = .ok (.lor, 1) := by decide +kernel
theorem dJx9a822_makeLong_0477f_92 : decode cJx9a822_makeLong_0477f 92 = .ok (.iload 7, 2) := by decide +kernel
theorem dJx9a822_makeLong_0477f_94 : decode cJx9a822_makeLong_0477f 94 = .ok (.invokestatic 781, 3) := by decide +kernel
theorem dJx9a822_makeLong_0477f_97 : decode cJx9a822_makeLong_0477f 97 = .ok (.bipush 56, 2) := by decide +kernel
theorem dJx9a822_makeLong_0477f_99 : decode cJx9a822_makeLong_0477f 99 = .ok (.bipush 56, 2) := by decide +kernel
theorem dJx9a822_makeLong_0477f_101 : decode cJx9a822_makeLong_0477f 101 = .ok (.invokestatic 784, 3) := by decide +kernel
theorem dJx9a822_makeLong_0477f_104 : decode cJx9a822_makeLong_0477f 104 = .ok (.lshl, 1) := by decide +kernel
theorem dJx9a822_makeLong_0477f_105 : decode cJx9a822_makeLong_0477f 105 = .ok (.lor, 1) := by decide +kernel
theorem dJx9a822_makeLong_0477f_106 : decode cJx9a822_makeLong_0477f 106 = .ok (.lreturn, 1) := by decide +kernel
set_option maxRecDepth 20000 in
theorem ggJx9a822_makeLong_4b46d_Jx9a822_toUnsignedLong_51cfc : GoodIn wsJx9a822_makeLong_4b46d wsJx9a822_toUnsignedLong_51cfc := goodIn_r _ [4, 5] (by decide +kernel) (by decide +kernel)
set_option maxRecDepth 20000 in
theorem gJx9a822_makeLong_4b46d_Jx9a822_toUnsignedLong_51cfc : GoodIn wsJx9a822_makeLong_4b46d (va_wsS RJx9a822 788 yJx9a822_toUnsignedLong_51cfc wsJx9a822_toUnsignedLong_51cfc) := goodIn_app (goodIn_of _ (by decide +kernel)) ggJx9a822_makeLong_4b46d_Jx9a822_toUnsignedLong_51cfc
set_option maxRecDepth 20000 in
theorem ggJx9a822_makeLong_4b46d_Jx9a822_pickPos_7cf53 : GoodIn wsJx9a822_makeLong_4b46d wsJx9a822_pickPos_7cf53 := goodIn_r _ [8, 9] (by decide +kernel) (by decide +kernel)
set_option maxRecDepth 20000 in
theorem gJx9a822_makeLong_4b46d_Jx9a822_pickPos_7cf53 : GoodIn wsJx9a822_makeLong_4b46d (va_wsS RJx9a822 784 yJx9a822_pickPos_7cf53 wsJx9a822_pickPos_7cf53) := goodIn_app (goodIn_of _ (by decide +kernel)) ggJx9a822_makeLong_4b46d_Jx9a822_pickPos_7cf53
theorem dJx9a822_makeLong_4b46d_0 : decode cJx9a822_makeLong_4b46d 0 = .ok (.iload_n 0, 1) := by decide +kernel
theorem dJx9a822_makeLong_4b46d_1 : decode cJx9a822_makeLong_4b46d 1 = .ok (.invokestatic 788, 3) := by decide +kernel
theorem dJx9a822_makeLong_4b46d_4 : decode cJx9a822_makeLong_4b46d 4 = .ok (.bipush 48, 2) := by decide +kernel
theorem dJx9a822_makeLong_4b46d_6 : decode cJx9a822_makeLong_4b46d 6 = .ok (.iconst 0, 1) := by decide +kernel
theorem dJx9a822_makeLong_4b46d_7 : decode cJx9a822_makeLong_4b46d 7 = .ok (.invokestatic 784, 3) := by decide +kernel
theorem dJx9a822_makeLong_4b46d_10 : decode cJx9a822_makeLong_4b46d 10 = .ok (.lshl, 1) := by decide +kernel
theorem dJx9a822_makeLong_4b46d_11 : decode cJx9a822_makeLong_4b46d 11 = .ok (.iload_n 1, 1) := by decide +kernel
theorem dJx9a822_makeLong_4b46d_12 : decode cJx9a822_makeLong_4b46d 12 = .ok (.invokestatic 788, 3) := by decide +kernel
theorem dJx9a822_makeLong_4b46d_15 : decode cJx9a822_makeLong_4b46d 15 = .ok (.bipush 48, 2) := by decide +kernel
theorem dJx9a822_makeLong_4b46d_17 : decode cJx9a822_makeLong_4b46d 17 = .ok (.bipush 16, 2) := by decide +kernel
theorem dJx9a822_makeLong_4b46d_19 : decode cJx9a822_makeLong_4b46d 19 = .ok (.invokestatic 784, 3) := by decide +kernel
theorem dJx9a822_makeLong_4b46d_22 : decode cJx9a822_makeLong_4b46d 22 = .ok (.lshl, 1) := by decide +kernel
theorem dJx9a822_makeLong_4b46d_23 : decode cJx9a822_makeLong_4b46d 23 = .ok (.lor, 1) := by decide +kernel
theorem dJx9a822_makeLong_4b46d_24 : decode cJx9a822_makeLong_4b46d 24 = .ok (.iload_n 2, 1) := by decide +kernel
theorem dJx9a822_makeLong_4b46d_25 : decode cJx9a822_makeLong_4b46d 25 = .ok (.invokestatic 788, 3) := by decide +kernel
theorem dJx9a822_makeLong_4b46d_28 : decode cJx9a822_makeLong_4b46d 28 = .ok (.bipush 48, 2) := by decide +kernel
theorem dJx9a822_makeLong_4b46d_30 : decode cJx9a822_makeLong_4b46d 30 = .ok (.bipush 32, 2) := by decide +kernel
theorem dJx9a822_makeLong_4b46d_32 : decode cJx9a822_makeLong_4b46d 32 = .ok (.invokestatic 784, 3) := by decide +kernel
theorem dJx9a822_makeLong_4b46d_35 : decode cJx9a822_makeLong_4b46d 35 = .ok (.lshl, 1) := by decide +kernel
theorem dJx9a822_makeLong_4b46d_36 : decode cJx9a822_makeLong_4b46d 36 = .ok (.lor, 1) := by decide +kernel
theorem dJx9a822_makeLong_4b46d_37 : decode cJx9a822_makeLong_4b46d 37 = .ok (.iload_n 3, 1) := by decide +kernel
theorem dJx9a822_makeLong_4b46d_38 : decode cJx9a822_makeLong_4b46d 38 = .ok (.invokestatic 788, 3) := by decide +kernel
theorem dJx9a822_makeLong_4b46d_41 : decode cJx9a822_makeLong_4b46d 41 = .ok (.bipush 48, 2) := by decide +kernel
theorem dJx9a822_makeLong_4b46d_43 : decode cJx9a822_makeLong_4b46d 43 = .ok (.bipush 48, 2) := by decide +kernel
theorem dJx9a822_makeLong_4b46d_45 : decode cJx9a822_makeLong_4b46d 45 = .ok (.invokestatic 784, 3) := by decide +kernel
theorem dJx9a822_makeLong_4b46d_48 : decode cJx9a822_makeLong_4b46d 48 = .ok (.lshl, 1) := by decide +kernel
theorem dJx9a822_makeLong_4b46d_49 : decode cJx9a822_makeLong_4b46d 49 = .ok (.lor, 1) := by decide +kernel
theorem dJx9a822_makeLong_4b46d_50 : decode cJx9a822_makeLong_4b46d 50 = .ok (.lreturn, 1) := by decide +kernel
set_option maxRecDepth 20000 in
theorem ggJx9a822_makeLong_a216e_Jx9a822_toUnsignedLong_3e8ac : GoodIn wsJx9a822_makeLong_a216e wsJx9a822_toUnsignedLong_3e8ac := goodIn_r _ [4, 5] (by decide +kernel) (by decide +kernel)
set_option maxRecDepth 20000 in
theorem gJx9a822_makeLong_a216e_Jx9a822_toUnsignedLong_3e8ac : GoodIn wsJx9a822_makeLong_a216e (va_wsS RJx9a822 791 yJx9a822_toUnsignedLong_3e8ac wsJx9a822_toUnsignedLong_3e8ac) := goodIn_app (goodIn_of _ (by decide +kernel)) ggJx9a822_makeLong_a216e_Jx9a822_toUnsignedLong_3e8ac
set_option maxRecDepth 20000 in
theorem ggJx9a822_makeLong_a216e_Jx9a822_pickPos_7cf53 : GoodIn wsJx9a822_makeLong_a216e wsJx9a822_pickPos_7cf53 := goodIn_r _ [8, 9] (by decide +kernel) (by decide +kernel)
set_option maxRecDepth 20000 in
theorem gJx9a822_makeLong_a216e_Jx9a822_pickPos_7cf53 : GoodIn wsJx9a822_makeLong_a216e (va_wsS RJx9a822 784 yJx9a822_pickPos_7cf53 wsJx9a822_pickPos_7cf53) := goodIn_app (goodIn_of _ (by decide +kernel)) ggJx9a822_makeLong_a216e_Jx9a822_pickPos_7cf53
theorem dJx9a822_makeLong_a216e_0 : decode cJx9a822_makeLong_a216e 0 = .ok (.iload_n 0, 1) := by decide +kernel
theorem dJx9a822_makeLong_a216e_1 : decode cJx9a822_makeLong_a216e 1 = .ok (.invokestatic 791, 3) := by decide +kernel
theorem dJx9a822_makeLong_a216e_4 : decode cJx9a822_makeLong_a216e 4 = .ok (.bipush 32, 2) := by decide +kernel
theorem dJx9a822_makeLong_a216e_6 : decode cJx9a822_makeLong_a216e 6 = .ok (.iconst 0, 1) := by decide +kernel
theorem dJx9a822_makeLong_a216e_7 : decode cJx9a822_makeLong_a216e 7 = .ok (.invokestatic 784, 3) := by decide +kernel
theorem dJx9a822_makeLong_a216e_10 : decode cJx9a822_makeLong_a216e 10 = .ok (.lshl, 1) := by decide +kernel
theorem dJx9a822_makeLong_a216e_11 : decode cJx9a822_makeLong_a216e 11 = .ok (.iload_n 1, 1) := by decide +kernel
theorem dJx9a822_makeLong_a216e_12 : decode cJx9a822_makeLong_a216e 12 = .ok (.invokestatic 791, 3) := by decide +kernel
theorem dJx9a822_makeLong_a216e_15 : decode cJx9a822_makeLong_a216e 15 = .ok (.bipush 32, 2) := by decide +kernel
theorem dJx9a822_makeLong_a216e_17 : decode cJx9a822_makeLong_a216e 17 = .ok (.bipush 32, 2) := by decide +kernel
theorem dJx9a822_makeLong_a216e_19 : decode cJx9a822_makeLong_a216e 19 = .ok (.invokestatic 784, 3) := by decide +kernel
theorem dJx9a822_makeLong_a216e_22 : decode cJx9a822_makeLong_a216e 22 = .ok (.lshl, 1) := by decide +kernel
theorem dJx9a822_makeLong_a216e_23 : decode cJx9a822_makeLong_a216e 23 = .ok (.lor, 1) := by decide +kernel
theorem dJx9a822_makeLong_a216e_24 : decode cJx9a822_makeLong_a216e 24 = .ok (.lreturn, 1) := by decide +kernel
set_option maxRecDepth 20000 in
theorem ggJx9a822_makeInt_4e28c_Jx9a822_toUnsignedInt_f1ed4 : GoodIn wsJx9a822_makeInt_4e28c wsJx9a822_toUnsignedInt_f1ed4 := goodIn_r _ [4, 5] (by decide +kernel) (by decide +kernel)
set_option maxRecDepth 20000 in
theorem gJx9a822_makeInt_4e28c_Jx9a822_toUnsignedInt_f1ed4 : GoodIn wsJx9a822_makeInt_4e28c (va_wsS RJx9a822 792 yJx9a822_toUnsignedInt_f1ed4 wsJx9a822_toUnsignedInt_f1ed4) := goodIn_app (goodIn_of _ (by decide +kernel)) ggJx9a822_makeInt_4e28c_Jx9a822_toUnsignedInt_f1ed4
set_option maxRecDepth 20000 in
theorem ggJx9a822_makeInt_4e28c_Jx9a822_pickPos_7cf53 : GoodIn wsJx9a822_makeInt_4e28c wsJx9a822_pickPos_7cf53 := goodIn_r _ [8, 9] (by decide +kernel) (by decide +kernel)
set_option maxRecDepth 20000 in
theorem gJx9a822_makeInt_4e28c_Jx9a822_pickPos_7cf53 : GoodIn wsJx9a822_makeInt_4e28c (va_wsS RJx9a822 784 yJx9a822_pickPos_7cf53 wsJx9a822_pickPos_7cf53) := goodIn_app (goodIn_of _ (by decide +kernel)) ggJx9a822_makeInt_4e28c_Jx9a822_pickPos_7cf53
theorem dJx9a822_makeInt_4e28c_0 : decode cJx9a822_makeInt_4e28c 0 = .ok (.iload_n 0, 1) := by decide +kernel
theorem dJx9a822_makeInt_4e28c_1 : decode cJx9a822_makeInt_4e28c 1 = .ok (.invokestatic 792, 3) := by decide +kernel
theorem dJx9a822_makeInt_4e28c_4 : decode cJx9a822_makeInt_4e28c 4 = .ok (.bipush 16, 2) := by decide +kernel
theorem dJx9a822_makeInt_4e28c_6 : decode cJx9a822_makeInt_4e28c 6 = .ok (.iconst 0, 1) := by decide +kernel
theorem dJx9a822_makeInt_4e28c_7 : decode cJx9a822_makeInt_4e28c 7 = .ok (.invokestatic 784, 3) := by decide +kernel
theorem dJx9a822_makeInt_4e28c_10 : decode cJx9a822_makeInt_4e28c 10 = .ok (.ishl, 1) := by decide +kernel
theorem dJx9a822_makeInt_4e28c_11 : decode cJx9a822_makeInt_4e28c 11 = .ok (.iload_n 1, 1) := by decide +kernel
theorem dJx9a822_makeInt_4e28c_12 : decode cJx9a822_makeInt_4e28c 12 = .ok (.invokestatic 792, 3) := by decide +kernel
theorem dJx9a822_makeInt_4e28c_15 : decode cJx9a822_makeInt_4e28c 15 = .ok (.bipush 16, 2) := by decide +kernel
theorem dJx9a822_makeInt_4e28c_17 : decode cJx9a822_makeInt_4e28c 17 = .ok (.bipush 16, 2) := by decide +kernel
theorem dJx9a822_makeInt_4e28c_19 : decode cJx9a822_makeInt_4e28c 19 = .ok (.invokestatic 784, 3) := by decide +kernel
theorem dJx9a822_makeInt_4e28c_22 : decode cJx9a822_makeInt_4e28c 22 = .ok (.ishl, 1) := by decide +kernel
theorem dJx9a822_makeInt_4e28c_23 : decode cJx9a822_makeInt_4e28c 23 = .ok (.ior, 1) := by decide +kernel
theorem dJx9a822_makeInt_4e28c_24 : decode cJx9a822_makeInt_4e28c 24 = .ok (.ireturn, 1) := by decide +kernel
set_option maxRecDepth 20000 in
theorem ggJx9a822_makeInt_86272_Jx9a822_toUnsignedInt_4d018 : GoodIn wsJx9a822_makeInt_86272 wsJx9a822_toUnsignedInt_4d018 := goodIn_r _ [4] (by decide +kernel) (by decide +kernel)
set_option maxRecDepth 20000 in
theorem gJx9a822_makeInt_86272_Jx9a822_toUnsignedInt_4d018 : GoodIn wsJx9a822_makeInt_86272 (va_wsS RJx9a822 796 yJx9a822_toUnsignedInt_4d018 wsJx9a822_toUnsignedInt_4d018) := goodIn_app (goodIn_of _ (by decide +kernel)) ggJx9a822_makeInt_86272_Jx9a822_toUnsignedInt_4d018
set_option maxRecDepth 20000 in
theorem ggJx9a822_makeInt_86272_Jx9a822_pickPos_7cf53 : GoodIn wsJx9a822_makeInt_86272 wsJx9a822_pickPos_7cf53 := goodIn_r _ [7, 8] (by decide +kernel) (by decide +kernel)
set_option maxRecDepth 20000 in
theorem gJx9a822_makeInt_86272_Jx9a822_pickPos_7cf53 : GoodIn wsJx9a822_makeInt_86272 (va_wsS RJx9a822 784 yJx9a822_pickPos_7cf53 wsJx9a822_pickPos_7cf53) := goodIn_app (goodIn_of _ (by decide +kernel)) ggJx9a822_makeInt_86272_Jx9a822_pickPos_7cf53
theorem dJx9a822_makeInt_86272_0 : decode cJx9a822_makeInt_86272 0 = .ok (.iload_n 0, 1) := by decide +kernel
theorem dJx9a822_makeInt_86272_1 : decode cJx9a822_makeInt_86272 1 = .ok (.invokestatic 796, 3) := by decide +kernel
theorem dJx9a822_makeInt_86272_4 : decode cJx9a822_makeInt_86272 4 = .ok (.bipush 24, 2) := by decide +kernel
theorem dJx9a822_makeInt_86272_6 : decode cJx9a822_makeInt_86272 6 = .ok (.iconst 0, 1) := by decide +kernel
theorem dJx9a822_makeInt_86272_7 : decode cJx9a822_makeInt_86272 7 = .ok (.invokestatic 784, 3) := by decide +kernel
theorem dJx9a822_makeInt_86272_10 : decode cJx9a822_makeInt_86272 10 = .ok (.ishl, 1) := by decide +kernel
theorem dJx9a822_makeInt_86272_11 : decode cJx9a822_makeInt_86272 11 = .ok (.iload_n 1, 1) := by decide +kernel
theorem dJx9a822_makeInt_86272_12 : decode cJx9a822_makeInt_86272 12 = .ok (.invokestatic 796, 3) := by decide +kernel
theorem dJx9a822_makeInt_86272_15 : decode cJx9a822_makeInt_86272 15 = .ok (.bipush 24, 2) := by decide +kernel
theorem dJx9a822_makeInt_86272_17 : decode cJx9a822_makeInt_86272 17 = .ok (.bipush 8, 2) := by decide +kernel
theorem dJx9a822_makeInt_86272_19 : decode cJx9a822_makeInt_86272 19 = .ok (.invokestatic 784, 3) := by decide +kernel
theorem dJx9a822_makeInt_86272_22 : decode cJx9a822_makeInt_86272 22 = .ok (.ishl, 1) := by decide +kernel
theorem dJx9a822_makeInt_86272_23 : decode cJx9a822_makeInt_86272 23 = .ok (.ior, 1) := by decide +kernel
theorem dJx9a822_makeInt_86272_24 : decode cJx9a822_makeInt_86272 24 = .ok (.iload_n 2, 1) := by decide +kernel
theorem dJx9a822_makeInt_86272_25 : decode cJx9a822_makeInt_86272 25 = .ok (.invokestatic 796, 3) := by decide +kernel
theorem dJx9a822_makeInt_86272_28 : decode cJx9a822_makeInt_86272 28 = .ok (.bipush 24, 2) := by decide +kernel
theorem dJx9a822_makeInt_86272_30 : decode cJx9a822_makeInt_86272 30 = .ok (.bipush 16, 2) := by decide +kernel
theorem dJx9a822_makeInt_86272_32 : decode cJx9a822_makeInt_86272 32 = .ok (.invokestatic 784, 3) := by decide +kernel
theorem dJx9a822_makeInt_86272_35 : decode cJx9a822_makeInt_86272 35 = .ok (.ishl, 1) := by decide +kernel
theorem dJx9a822_makeInt_86272_36 : decode cJx9a822_makeInt_86272 36 = .ok (.ior, 1) := by decide +kernel
theorem dJx9a822_makeInt_86272_37 : decode cJx9a822_makeInt_86272 37 = .ok (.iload_n 3, 1) := by decide +kernel
theorem dJx9a822_makeInt_86272_38 : decode cJx9a822_makeInt_86272 38 = .ok (.invokestatic 796, 3) := by decide +kernel
theorem dJx9a822_makeInt_86272_41 : decode cJx9a822_makeInt_86272 41 = .ok (.bipush 24, 2) := by decide +kernel
theorem dJx9a822_makeInt_86272_43 : decode cJx9a822_makeInt_86272 43 = .ok (.bipush 24, 2) := by decide +kernel
theorem dJx9a822_makeInt_86272_45 : decode cJx9a822_makeInt_86272 45 = .ok (.invokestatic 784, 3) := by decide +kernel
theorem dJx9a822_makeInt_86272_48 : decode cJx9a822_makeInt_86272 48 = .ok (.ishl, 1) := by decide +kernel
theorem dJx9a822_makeInt_86272_49 : decode cJx9a822_makeInt_86272 49 = .ok (.ior, 1) := by decide +kernel
theorem dJx9a822_makeInt_86272_50 : decode cJx9a822_makeInt_86272 50 = .ok (.ireturn, 1) := by decide +kernel
theorem dJx9a822_toUnsignedInt_4d018_0 : decode cJx9a822_toUnsignedInt_4d018 0 = .ok (.iload_n 0, 1) := by decide +kernel
theorem dJx9a822_toUnsignedInt_4d018_1 : decode cJx9a822_toUnsignedInt_4d018 1 = .ok (.sipush 255, 3) := by decide +kernel
theorem dJx9a822_toUnsignedInt_4d018_4 : decode cJx9a822_toUnsignedInt_4d018 4 = .ok (.iand, 1) := by decide +kernel
theorem dJx9a822_toUnsignedInt_4d018_5 : decode cJx9a822_toUnsignedInt_4d018 5 = .ok (.ireturn, 1) := by decide +kernel
theorem dJx9a822_toUnsignedInt_f1ed4_0 : decode cJx9a822_toUnsignedInt_f1ed4 0 = .ok (.iload_n 0, 1) := by decide +kernel
theorem dJx9a822_toUnsignedInt_f1ed4_1 : decode cJx9a822_toUnsignedInt_f1ed4 1 = .ok (.ldc_w 374, 3) := by decide +kernel
theorem dJx9a822_toUnsignedInt_f1ed4_4 : decode cJx9a822_toUnsignedInt_f1ed4 4 = .ok (.iand, 1) := by decide +kernel
theorem dJx9a822_toUnsignedInt_f1ed4_5 : decode cJx9a822_toUnsignedInt_f1ed4 5 = .ok (.ireturn, 1) := by decide +kernel
theorem dJx9a822_toUnsignedLong_c5be9_0 : decode cJx9a822_toUnsignedLong_c5be9 0 = .ok (.iload_n 0, 1) := by decide +kernel
theorem dJx9a822_toUnsignedLong_c5be9_1 : decode cJx9a822_toUnsignedLong_c5be9 1 = .ok (.i2l, 1) := by decide +kernel
theorem dJx9a822_toUnsignedLong_c5be9_2 : decode cJx9a822_toUnsignedLong_c5be9 2 = .ok (.ldc2_w 808, 3) := by decide +kernel
theorem dJx9a822_toUnsignedLong_c5be9_5 : decode cJx9a822_toUnsignedLong_c5be9 5 = .ok (.land, 1) := by decide +kernel
theorem dJx9a822_toUnsignedLong_c5be9_6 : decode cJx9a822_toUnsignedLong_c5be9 6 = .ok (.lreturn, 1) := by decide +kernel
theorem dJx9a822_toUnsignedLong_51cfc_0 : decode cJx9a822_toUnsignedLong_51cfc 0 = .ok (.iload_n 0, 1) := by decide +kernel
theorem dJx9a822_toUnsignedLong_51cfc_1 : decode cJx9a822_toUnsignedLong_51cfc 1 = .ok (.i2l, 1) := by decide +kernel
theorem dJx9a822_toUnsignedLong_51cfc_2 : decode cJx9a822_toUnsignedLong_51cfc 2 = .ok (.ldc2_w 810, 3) := by decide +kernel
theorem dJx9a822_toUnsignedLong_51cfc_5 : decode cJx9a822_toUnsignedLong_51cfc 5 = .ok (.land, 1) := by decide +kernel
theorem dJx9a822_toUnsignedLong_51cfc_6 : decode cJx9a822_toUnsignedLong_51cfc 6 = .ok (.lreturn, 1) := by decide +kernel
theorem dJx9a822_toUnsignedLong_3e8ac_0 : decode cJx9a822_toUnsignedLong_3e8ac 0 = .ok (.iload_n 0, 1) := by decide +kernel
theorem dJx9a822_toUnsignedLong_3e8ac_1 : decode cJx9a822_toUnsignedLong_3e8ac 1 = .ok (.i2l, 1) := by decide +kernel
theorem dJx9a822_toUnsignedLong_3e8ac_2 : decode cJx9a822_toUnsignedLong_3e8ac 2 = .ok (.ldc2_w 812, 3) := by decide +kernel
theorem dJx9a822_toUnsignedLong_3e8ac_5 : decode cJx9a822_toUnsignedLong_3e8ac 5 = .ok (.land, 1) := by decide +kernel
theorem dJx9a822_toUnsignedLong_3e8ac_6 : decode cJx9a822_toUnsignedLong_3e8ac 6 = .ok (.lreturn, 1) := by decide +kernel
set_option maxRecDepth 20000 in
theorem ggJ8_vectorizedMismatch_456ae_Jx9a822_getLongUnaligned_f02c6 : GoodIn wsJ8_vectorizedMismatch_456ae wsJx9a822_getLongUnaligned_f02c6 := goodIn_r _ [10, 11, 12, 13, 14, 15, 16, 17, 18, 9, 19, 20, 21, 22, 23, 24, 25, 26, 27, 28, 29, 30, 31, 32, 33, 34, 35, 36, 37, 38, 39, 40, 41] (by decide +kernel) (by decide +kernel)
set_option maxRecDepth 20000 in
theorem gJ8_vectorizedMismatch_456ae_Jx9a822_getLongUnaligned_f02c6 : GoodIn wsJ8_vectorizedMismatch_456ae (wsV RJ8 30 RJx9a822 yJx9a822_getLongUnaligned_f02c6 wsJx9a822_getLongUnaligned_f02c6) := goodIn_app (goodIn_of _ (by decide +kernel)) ggJ8_vectorizedMismatch_456ae_Jx9a822_getLongUnaligned_f02c6
set_option maxRecDepth 20000 in
theorem ggJ8_vectorizedMismatch_456ae_J13_numberOfLeadingZeros_95d88 : GoodIn wsJ8_vectorizedMismatch_456ae wsJ13_numberOfLeadingZeros_95d88 := goodIn_r _ [45, 46, 47, 48, 49, 50] (by decide +kernel) (by decide +kernel)
set_option maxRecDepth 20000 in
theorem gJ8_vectorizedMismatch_456ae_J13_numberOfLeadingZeros_95d88 : GoodIn wsJ8_vectorizedMismatch_456ae (va_wsS RJ8 40 yJ13_numberOfLeadingZeros_95d88 wsJ13_numberOfLeadingZeros_95d88) := goodIn_app (goodIn_of _ (by decide +kernel)) ggJ8_vectorizedMismatch_456ae_J13_numberOfLeadingZeros_95d88
set_option maxRecDepth 20000 in
theorem ggJ8_vectorizedMismatch_456ae_J13_numberOfTrailingZeros_95d88 : GoodIn wsJ8_vectorizedMismatch_456ae wsJ13_numberOfTrailingZeros_95d88 := goodIn_r _ [53, 54, 55, 48, 56, 50] (by decide +kernel) (by decide +kernel)
set_option maxRecDepth 20000 in
theorem gJ8_vectorizedMismatch_456ae_J13_numberOfTrailingZeros_95d88 : GoodIn wsJ8_vectorizedMismatch_456ae (va_wsS RJ8 49 yJ13_numberOfTrailingZeros_95d88 wsJ13_numberOfTrailingZeros_95d88) := goodIn_app (goodIn_of _ (by decide +kernel)) ggJ8_vectorizedMismatch_456ae_J13_numberOfTrailingZeros_95d88
set_option maxRecDepth 20000 in
theorem ggJ8_vectorizedMismatch_456ae_Jx9a822_getIntUnaligned_25a47 : GoodIn wsJ8_vectorizedMismatch_456ae wsJx9a822_getIntUnaligned_25a47 := goodIn_r _ [60, 12, 14, 61, 62, 9, 63, 64, 65, 66, 67, 24, 25, 26, 27, 68, 69, 70, 71, 72, 73] (by decide +kernel) (by decide +kernel)
set_option maxRecDepth 20000 in
theorem gJ8_vectorizedMismatch_456ae_Jx9a822_getIntUnaligned_25a47 : GoodIn wsJ8_vectorizedMismatch_456ae (wsV RJ8 54 RJx9a822 yJx9a822_getIntUnaligned_25a47 wsJx9a822_getIntUnaligned_25a47) := goodIn_app (goodIn_of _ (by decide +kernel)) ggJ8_vectorizedMismatch_456ae_Jx9a822_getIntUnaligned_25a47
set_option maxRecDepth 20000 in
theorem ggJ8_vectorizedMismatch_456ae_J6_numberOfLeadingZeros_0f7a4 : GoodIn wsJ8_vectorizedMismatch_456ae wsJ6_numberOfLeadingZeros_0f7a4 := goodIn_r _ [49, 50] (by decide +kernel) (by decide +kernel)
set_option maxRecDepth 20000 in
theorem gJ8_vectorizedMismatch_456ae_J6_numberOfLeadingZeros_0f7a4 : GoodIn wsJ8_vectorizedMismatch_456ae (va_wsS RJ8 58 yJ6_numberOfLeadingZeros_0f7a4 wsJ6_numberOfLeadingZeros_0f7a4) := goodIn_app (goodIn_of _ (by decide +kernel)) ggJ8_vectorizedMismatch_456ae_J6_numberOfLeadingZeros_0f7a4
set_option maxRecDepth 20000 in
theorem ggJ8_vectorizedMismatch_456ae_J6_numberOfTrailingZeros_0f7a4 : GoodIn wsJ8_vectorizedMismatch_456ae wsJ6_numberOfTrailingZeros_0f7a4 := goodIn_r _ [56, 50] (by decide +kernel) (by decide +kernel)
set_option maxRecDepth 20000 in
theorem gJ8_vectorizedMismatch_456ae_J6_numberOfTrailingZeros_0f7a4 : GoodIn wsJ8_vectorizedMismatch_456ae (va_wsS RJ8 11 yJ6_numberOfTrailingZeros_0f7a4 wsJ6_numberOfTrailingZeros_0f7a4) := goodIn_app (goodIn_of _ (by decide +kernel)) ggJ8_vectorizedMismatch_456ae_J6_numberOfTrailingZeros_0f7a4
theorem dJ8_vectorizedMismatch_456ae_0 : decode cJ8_vectorizedMismatch_456ae 0 = .ok (.getstatic 20, 3) := by decide +kernel
theorem dJ8_vectorizedMismatch_456ae_3 : decode cJ8_vectorizedMismatch_456ae 3 = .ok (.iload 7, 2) := by decide +kernel
theorem dJ8_vectorizedMismatch_456ae_5 : decode cJ8_vectorizedMismatch_456ae 5 = .ok (.isub, 1) := by decide +kernel
theorem dJ8_vectorizedMismatch_456ae_6 : decode cJ8_vectorizedMismatch_456ae 6 = .ok (.istore 8, 2) := by decide +kernel
theorem dJ8_vectorizedMismatch_456ae_8 : decode cJ8_vectorizedMismatch_456ae 8 = .ok (.iconst 0, 1) := by decide +kernel
theorem dJ8_vectorizedMismatch_456ae_9 : decode cJ8_vectorizedMismatch_456ae 9 = .ok (.istore 9, 2) := by decide +kernel
theorem dJ8_vectorizedMismatch_456ae_11 : decode cJ8_vectorizedMismatch_456ae 11 = .ok (.iload 9, 2) := by decide +kernel
theorem dJ8_vectorizedMismatch_456ae_13 : decode cJ8_vectorizedMismatch_456ae 13 = .ok (.iload 6, 2) := by decide +kernel
theorem dJ8_vectorizedMismatch_456ae_15 : decode cJ8_vectorizedMismatch_456ae 15 = .ok (.iload 8, 2) := by decide +kernel
theorem dJ8_vectorizedMismatch_456ae_17 : decode cJ8_vectorizedMismatch_456ae 17 = .ok (.ishr, 1) := by decide +kernel
theorem dJ8_vectorizedMismatch_456ae_18 : decode cJ8_vectorizedMismatch_456ae 18 = .ok (.if_icmp .ge 104, 3) := by decide +kernel
theorem dJ8_vectorizedMismatch_456ae_21 : decode cJ8_vectorizedMismatch_456ae 21 = .ok (.iload 9, 2) := by decide +kernel
theorem dJ8_vectorizedMismatch_456ae_23 : decode cJ8_vectorizedMismatch_456ae 23 = .ok (.i2l, 1) := by decide +kernel
theorem dJ8_vectorizedMismatch_456ae_24 : decode cJ8_vectorizedMismatch_456ae 24 = .ok (.getstatic 20, 3) := by decide +kernel
theorem dJ8_vectorizedMismatch_456ae_27 : decode cJ8_vectorizedMismatch_456ae 27 = .ok (.lshl, 1) := by decide +kernel
theorem dJ8_vectorizedMismatch_456ae_28 : decode cJ8_vectorizedMismatch_456ae 28 = .ok (.lstore 10, 2) := by decide +kernel
theorem dJ8_vectorizedMismatch_456ae_30 : decode cJ8_vectorizedMismatch_456ae 30 = .ok (.getstatic 26, 3) := by decide +kernel
theorem dJ8_vectorizedMismatch_456ae_33 : decode cJ8_vectorizedMismatch_456ae 33 = .ok (.aload_n 0, 1) := by decide +kernel
theorem dJ8_vectorizedMismatch_456ae_34 : decode cJ8_vectorizedMismatch_456ae 34 = .ok (.lload_n 1, 1) := by decide +kernel
theorem dJ8_vectorizedMismatch_456ae_35 : decode cJ8_vectorizedMismatch_456ae 35 = .ok (.lload 10, 2) := by decide +kernel
theorem dJ8_vectorizedMismatch_456ae_37 : decode cJ8_vectorizedMismatch_456ae 37 = .ok (.ladd, 1) := by decide +kernel
theorem dJ8_vectorizedMismatch_456ae_38 : decode cJ8_vectorizedMismatch_456ae 38 = .ok (.invokevirtual 30, 3) := by decide +kernel
theorem dJ8_vectorizedMismatch_456ae_41 : decode cJ8_vectorizedMismatch_456ae 41 = .ok (.lstore 12, 2) := by decide +kernel
theorem dJ8_vectorizedMismatch_456ae_43 : decode cJ8_vectorizedMismatch_456ae 43 = .ok (.getstatic 26, 3) := by decide +kernel
theorem dJ8_vectorizedMismatch_456ae_46 : decode cJ8_vectorizedMismatch_456ae 46 = .ok (.aload_n 3, 1) := by decide +kernel
theorem dJ8_vectorizedMismatch_456ae_47 : decode cJ8_vectorizedMismatch_456ae 47 = .ok (.lload 4, 2) := by decide +kernel
theorem dJ8_vectorizedMismatch_456ae_49 : decode cJ8_vectorizedMismatch_456ae 49 = .ok (.lload 10, 2) := by decide +kernel
theorem dJ8_vectorizedMismatch_456ae_51 : decode cJ8_vectorizedMismatch_456ae 51 = .ok (.ladd, 1) := by decide +kernel
theorem dJ8_vectorizedMismatch_456ae_52 : decode cJ8_vectorizedMismatch_456ae 52 = .ok (.invokevirtual 30, 3) := by decide +kernel
theorem dJ8_vectorizedMismatch_456ae_55 : decode cJ8_vectorizedMismatch_456ae 55 = .ok (.lstore 14, 2) := by decide +kernel
theorem dJ8_vectorizedMismatch_456ae_57 : decode cJ8_vectorizedMismatch_456ae 57 = .ok (.lload 12, 2) := by decide +kernel
theorem dJ8_vectorizedMismatch_456ae_59 : decode cJ8_vectorizedMismatch_456ae 59 = .ok (.lload 14, 2) := by decide +kernel
theorem dJ8_vectorizedMismatch_456ae_61 : decode cJ8_vectorizedMismatch_456ae 61 = .ok (.lcmp, 1) := by decide +kernel
theorem dJ8_vectorizedMismatch_456ae_62 : decode cJ8_vectorizedMismatch_456ae 62 = .ok (.ifCond .eq 54, 3) := by decide +kernel
theorem dJ8_vectorizedMismatch_456ae_65 : decode cJ8_vectorizedMismatch_456ae 65 = .ok (.lload 12, 2) := by decide +kernel
theorem dJ8_vectorizedMismatch_456ae_67 : decode cJ8_vectorizedMismatch_456ae 67 = .ok (.lload 14, 2) := by decide +kernel
theorem dJ8_vectorizedMismatch_456ae_69 : decode cJ8_vectorizedMismatch_456ae 69 = .ok (.lxor, 1) := by decide +kernel
theorem dJ8_vectorizedMismatch_456ae_70 : decode cJ8_vectorizedMismatch_456ae 70 = .ok (.lstore 16, 2) := by decide +kernel
theorem dJ8_vectorizedMismatch_456ae_72 : decode cJ8_vectorizedMismatch_456ae 72 = .ok (.getstatic 36, 3) := by decide +kernel
theorem dJ8_vectorizedMismatch_456ae_75 : decode cJ8_vectorizedMismatch_456ae 75 = .ok (.ifCond .eq 18, 3) := by decide +kernel
theorem dJ8_vectorizedMismatch_456ae_78 : decode cJ8_vectorizedMismatch_456ae 78 = .ok (.lload 16, 2) := by decide +kernel
theorem dJ8_vectorizedMismatch_456ae_80 : decode cJ8_vectorizedMismatch_456ae 80 = .ok (.invokestatic 40, 3) := by decide +kernel
theorem dJ8_vectorizedMismatch_456ae_83 : decode cJ8_vectorizedMismatch_456ae 83 = .ok (.getstatic 46, 3) := by decide +kernel
theorem dJ8_vectorizedMismatch_456ae_86 : decode cJ8_vectorizedMismatch_456ae 86 = .ok (.iload 7, 2) := by decide +kernel
theorem dJ8_vectorizedMismatch_456ae_88 : decode cJ8_vectorizedMismatch_456ae 88 = .ok (.iadd, 1) := by decide +kernel
theorem dJ8_vectorizedMismatch_456ae_89 : decode cJ8_vectorizedMismatch_456ae 89 = .ok (.ishr, 1) := by decide +kernel
theorem dJ8_vectorizedMismatch_456ae_90 : decode cJ8_vectorizedMismatch_456ae 90 = .ok (.goto 15, 3) := by decide +kernel
theorem dJ8_vectorizedMismatch_456ae_93 : decode cJ8_vectorizedMismatch_456ae 93 = .ok (.lload 16, 2) := by decide +kernel
theorem dJ8_vectorizedMismatch_456ae_95 : decode cJ8_vectorizedMismatch_456ae 95 = .ok (.invokestatic 49, 3) := by decide +kernel
theorem dJ8_vectorizedMismatch_456ae_98 : decode cJ8_vectorizedMismatch_456ae 98 = .ok (.getstatic 46, 3) := by decide +kernel
theorem dJ8_vectorizedMismatch_456ae_101 : decode cJ8_vectorizedMismatch_456ae 101 = .ok (.iload 7, 2) := by decide +kernel
theorem dJ8_vectorizedMismatch_456ae_103 : decode cJ8_vectorizedMismatch_456ae 103 = .ok (.iadd, 1) := by decide +kernel
theorem dJ8_vectorizedMismatch_456ae_104 : decode cJ8_vectorizedMismatch_456ae 104 = .ok (.ishr, 1) := by decide +kernel
theorem dJ8_vectorizedMismatch_456ae_105 : decode cJ8_vectorizedMismatch_456ae 105 = .ok (.istore 18, 2) := by decide +kernel
theorem dJ8_vectorizedMismatch_456ae_107 : decode cJ8_vectorizedMismatch_456ae 107 = .ok (.iload 9, 2) := by decide +kernel
theorem dJ8_vectorizedMismatch_456ae_109 : decode cJ8_vectorizedMismatch_456ae 109 = .ok (.iload 8, 2) := by decide +kernel
theorem dJ8_vectorizedMismatch_456ae_111 : decode cJ8_vectorizedMismatch_456ae 111 = .ok (.ishl, 1) := by decide +kernel
theorem dJ8_vectorizedMismatch_456ae_112 : decode cJ8_vectorizedMismatch_456ae 112 = .ok (.iload 18, 2) := by decide +kernel
theorem dJ8_vectorizedMismatch_456ae_114 : decode cJ8_vectorizedMismatch_456ae 114 = .ok (.iadd, 1) := by decide +kernel
theorem dJ8_vectorizedMismatch_456ae_115 : decode cJ8_vectorizedMismatch_456ae 115 = .ok (.ireturn, 1) := by decide +kernel
theorem dJ8_vectorizedMismatch_456ae_116 : decode cJ8_vectorizedMismatch_456ae 116 = .ok (.iinc 9 1, 3) := by decide +kernel
theorem dJ8_vectorizedMismatch_456ae_119 : decode cJ8_vectorizedMismatch_456ae 119 = .ok (.goto (-108), 3) := by decide +kernel
theorem dJ8_vectorizedMismatch_456ae_122 : decode cJ8_vectorizedMismatch_456ae 122 = .ok (.iload 6, 2) := by decide +kernel
theorem dJ8_vectorizedMismatch_456ae_124 : decode cJ8_vectorizedMismatch_456ae 124 = .ok (.iload 9, 2) := by decide +kernel
theorem dJ8_vectorizedMismatch_456ae_126 : decode cJ8_vectorizedMismatch_456ae 126 = .ok (.iload 8, 2) := by decide +kernel
theorem dJ8_vectorizedMismatch_456ae_128 : decode cJ8_vectorizedMismatch_456ae 128 = .ok (.ishl, 1) := by decide +kernel
theorem dJ8_vectorizedMismatch_456ae_129 : decode cJ8_vectorizedMismatch_456ae 129 = .ok (.isub, 1) := by decide +kernel
theorem dJ8_vectorizedMismatch_456ae_130 : decode cJ8_vectorizedMismatch_456ae 130 = .ok (.istore 10, 2) := by decide +kernel
theorem dJ8_vectorizedMismatch_456ae_132 : decode cJ8_vectorizedMismatch_456ae 132 = .ok (.iload 7, 2) := by decide +kernel
theorem dJ8_vectorizedMismatch_456ae_134 : decode cJ8_vectorizedMismatch_456ae 134 = .ok (.getstatic 51, 3) := by decide +kernel
theorem dJ8_vectorizedMismatch_456ae_137 : decode cJ8_vectorizedMismatch_456ae 137 = .ok (.if_icmp .ge 126, 3) := by decide +kernel
theorem dJ8_vectorizedMismatch_456ae_140 : decode cJ8_vectorizedMismatch_456ae 140 = .ok (.iconst 1, 1) := by decide +kernel
theorem dJ8_vectorizedMismatch_456ae_141 : decode cJ8_vectorizedMismatch_456ae 141 = .ok (.getstatic 51, 3) := by decide +kernel
theorem dJ8_vectorizedMismatch_456ae_144 : decode cJ8_vectorizedMismatch_456ae 144 = .ok (.iload 7, 2) := by decide +kernel
theorem dJ8_vectorizedMismatch_456ae_146 : decode cJ8_vectorizedMismatch_456ae 146 = .ok (.isub, 1) := by decide +kernel
theorem dJ8_vectorizedMismatch_456ae_147 : decode cJ8_vectorizedMismatch_456ae 147 = .ok (.ishl, 1) := by decide +kernel
theorem dJ8_vectorizedMismatch_456ae_148 : decode cJ8_vectorizedMismatch_456ae 148 = .ok (.istore 11, 2) := by decide +kernel
theorem dJ8_vectorizedMismatch_456ae_150 : decode cJ8_vectorizedMismatch_456ae 150 = .ok (.iload 10, 2) := by decide +kernel
theorem dJ8_vectorizedMismatch_456ae_152 : decode cJ8_vectorizedMismatch_456ae 152 = .ok (.iload 11, 2) := by decide +kernel
theorem dJ8_vectorizedMismatch_456ae_154 : decode cJ8_vectorizedMismatch_456ae 154 = .ok (.if_icmp .lt 104, 3) := by decide +kernel
theorem dJ8_vectorizedMismatch_456ae_157 : decode cJ8_vectorizedMismatch_456ae 157 = .ok (.iload 9, 2) := by decide +kernel
theorem dJ8_vectorizedMismatch_456ae_159 : decode cJ8_vectorizedMismatch_456ae 159 = .ok (.i2l, 1) := by decide +kernel
theorem dJ8_vectorizedMismatch_456ae_160 : decode cJ8_vectorizedMismatch_456ae 160 = .ok (.getstatic 20, 3) := by decide +kernel
theorem dJ8_vectorizedMismatch_456ae_163 : decode cJ8_vectorizedMismatch_456ae 163 = .ok (.lshl, 1) := by decide +kernel
theorem dJ8_vectorizedMismatch_456ae_164 : decode cJ8_vectorizedMismatch_456ae 164 = .ok (.lstore 12, 2) := by decide +kernel
theorem dJ8_vectorizedMismatch_456ae_166 : decode cJ8_vectorizedMismatch_456ae 166 = .ok (.getstatic 26, 3) := by decide +kernel
theorem dJ8_vectorizedMismatch_456ae_169 : decode cJ8_vectorizedMismatch_456ae 169 = .ok (.aload_n 0, 1) := by decide +kernel
theorem dJ8_vectorizedMismatch_456ae_170 : decode cJ8_vectorizedMismatch_456ae 170 = .ok (.lload_n 1, 1) := by decide +kernel
theorem dJ8_vectorizedMismatch_456ae_171 : decode cJ8_vectorizedMismatch_456ae 171 = .ok (.lload 12, 2) := by decide +kernel
theorem dJ8_vectorizedMismatch_456ae_173 : decode cJ8_vectorizedMismatch_456ae 173 = .ok (.ladd, 1) := by decide +kernel
theorem dJ8_vectorizedMismatch_456ae_174 : decode cJ8_vectorizedMismatch_456ae 174 = .ok (.invokevirtual 54, 3) := by decide +kernel
theorem dJ8_vectorizedMismatch_456ae_177 : decode cJ8_vectorizedMismatch_456ae 177 = .ok (.istore 14, 2) := by decide +kernel
theorem dJ8_vectorizedMismatch_456ae_179 : decode cJ8_vectorizedMismatch_456ae 179 = .ok (.getstatic 26, 3) := by decide +kernel
theorem dJ8_vectorizedMismatch_456ae_182 : decode cJ8_vectorizedMismatch_456ae 182 = .ok (.aload_n 3, 1) := by decide +kernel
theorem dJ8_vectorizedMismatch_456ae_183 : decode cJ8_vectorizedMismatch_456ae 183 = .ok (.lload 4, 2) := by decide +kernel
theorem dJ8_vectorizedMismatch_456ae_185 : decode cJ8_vectorizedMismatch_456ae 185 = .ok (.lload 12, 2) := by decide +kernel
theorem dJ8_vectorizedMismatch_456ae_187 : decode cJ8_vectorizedMismatch_456ae 187 = .ok (.ladd, 1) := by decide +kernel
theorem dJ8_vectorizedMismatch_456ae_188 : decode cJ8_vectorizedMismatch_456ae 188 = .ok (.invokevirtual 54, 3) := by decide +kernel
theorem dJ8_vectorizedMismatch_456ae_191 : decode cJ8_vectorizedMismatch_456ae 191 = .ok (.istore 15, 2) := by decide +kernel
theorem dJ8_vectorizedMismatch_456ae_193 : decode cJ8_vectorizedMismatch_456ae 193 = .ok (.iload 14, 2) := by decide +kernel
theorem dJ8_vectorizedMismatch_456ae_195 : decode cJ8_vectorizedMismatch_456ae 195 = .ok (.iload 15, 2) := by decide +kernel
theorem dJ8_vectorizedMismatch_456ae_197 : decode cJ8_vectorizedMismatch_456ae 197 = .ok (.if_icmp .eq 54, 3) := by decide +kernel
theorem dJ8_vectorizedMismatch_456ae_200 : decode cJ8_vectorizedMismatch_456ae 200 = .ok (.iload 14, 2) := by decide +kernel
theorem dJ8_vectorizedMismatch_456ae_202 : decode cJ8_vectorizedMismatch_456ae 202 = .ok (.iload 15, 2) := by decide +kernel
theorem dJ8_vectorizedMismatch_456ae_204 : decode cJ8_vectorizedMismatch_456ae 204 = .ok (.ixor, 1) := by decide +kernel
theorem dJ8_vectorizedMismatch_456ae_205 : decode cJ8_vectorizedMismatch_456ae 205 = .ok (.istore 16, 2) := by decide +kernel
theorem dJ8_vectorizedMismatch_456ae_207 : decode cJ8_vectorizedMismatch_456ae 207 = .ok (.getstatic 36, 3) := by decide +kernel
theorem dJ8_vectorizedMismatch_456ae_210 : decode cJ8_vectorizedMismatch_456ae 210 = .ok (.ifCond .eq 18, 3) := by decide +kernel
theorem dJ8_vectorizedMismatch_456ae_213 : decode cJ8_vectorizedMismatch_456ae 213 = .ok (.iload 16, 2) := by decide +kernel
theorem dJ8_vectorizedMismatch_456ae_215 : decode cJ8_vectorizedMismatch_456ae 215 = .ok (.invokestatic 58, 3) := by decide +kernel
theorem dJ8_vectorizedMismatch_456ae_218 : decode cJ8_vectorizedMismatch_456ae 218 = .ok (.getstatic 46, 3) := by decide +kernel
theorem dJ8_vectorizedMismatch_456ae_221 : decode cJ8_vectorizedMismatch_456ae 221 = .ok (.iload 7, 2) := by decide +kernel
theorem dJ8_vectorizedMismatch_456ae_223 : decode cJ8_vectorizedMismatch_456ae 223 = .ok (.iadd, 1) := by decide +kernel
theorem dJ8_vectorizedMismatch_456ae_224 : decode cJ8_vectorizedMismatch_456ae 224 = .ok (.ishr, 1) := by decide +kernel
theorem dJ8_vectorizedMismatch_456ae_225 : decode cJ8_vectorizedMismatch_456ae 225 = .ok (.goto 15, 3) := by decide +kernel
theorem dJ8_vectorizedMismatch_456ae_228 : decode cJ8_vectorizedMismatch_456ae 228 = .ok (.iload 16, 2) := by decide +kernel
theorem dJ8_vectorizedMismatch_456ae_230 : decode cJ8_vectorizedMismatch_456ae 230 = .ok (.invokestatic 11, 3) := by decide +kernel
theorem dJ8_vectorizedMismatch_456ae_233 : decode cJ8_vectorizedMismatch_456ae 233 = .ok (.getstatic 46, 3) := by decide +kernel
theorem dJ8_vectorizedMismatch_456ae_236 : decode cJ8_vectorizedMismatch_456ae 236 = .ok (.iload 7, 2) := by decide +kernel
theorem dJ8_vectorizedMismatch_456ae_238 : decode cJ8_vectorizedMismatch_456ae 238 = .ok (.iadd, 1) := by decide +kernel
theorem dJ8_vectorizedMismatch_456ae_239 : decode cJ8_vectorizedMismatch_456ae 239 = .ok (.ishr, 1) := by decide +kernel
theorem dJ8_vectorizedMismatch_456ae_240 : decode cJ8_vectorizedMismatch_456ae 240 = .ok (.istore 17, 2) := by decide +kernel
theorem dJ8_vectorizedMismatch_456ae_242 : decode cJ8_vectorizedMismatch_456ae 242 = .ok (.iload 9, 2) := by decide +kernel
theorem dJ8_vectorizedMismatch_456ae_244 : decode cJ8_vectorizedMismatch_456ae 244 = .ok (.iload 8, 2) := by decide +kernel
theorem dJ8_vectorizedMismatch_456ae_246 : decode cJ8_vectorizedMismatch_456ae 246 = .ok (.ishl, 1) := by decide +kernel
theorem dJ8_vectorizedMismatch_456ae_247 : decode cJ8_vectorizedMismatch_456ae 247 = .ok (.iload 17, 2) := by decide +kernel
theorem dJ8_vectorizedMismatch_456ae_249 : decode cJ8_vectorizedMismatch_456ae 249 = .ok (.iadd, 1) := by decide +kernel
theorem dJ8_vectorizedMismatch_456ae_250 : decode cJ8_vectorizedMismatch_456ae 250 = .ok (.ireturn, 1) := by decide +kernel
theorem dJ8_vectorizedMismatch_456ae_251 : decode cJ8_vectorizedMismatch_456ae 251 = .ok (.iload 10, 2) := by decide +kernel
theorem dJ8_vectorizedMismatch_456ae_253 : decode cJ8_vectorizedMismatch_456ae 253 = .ok (.iload 11, 2) := by decide +kernel
theorem dJ8_vectorizedMismatch_456ae_255 : decode cJ8_vectorizedMismatch_456ae 255 = .ok (.isub, 1) := by decide +kernel
theorem dJ8_vectorizedMismatch_456ae_256 : decode cJ8_vectorizedMismatch_456ae 256 = .ok (.istore 10, 2) := by decide +kernel
theorem dJ8_vectorizedMismatch_456ae_258 : decode cJ8_vectorizedMismatch_456ae 258 = .ok (.iload 10, 2) := by decide +kernel
theorem dJ8_vectorizedMismatch_456ae_260 : decode cJ8_vectorizedMismatch_456ae 260 = .ok (.iconst (-1), 1) := by decide +kernel
theorem dJ8_vectorizedMismatch_456ae_261 : decode cJ8_vectorizedMismatch_456ae 261 = .ok (.ixor, 1) := by decide +kernel
theorem dJ8_vectorizedMismatch_456ae_262 : decode cJ8_vectorizedMismatch_456ae 262 = .ok (.ireturn, 1) := by decide +kernel
theorem dJ8_vectorizedMismatch_456ae_263 : decode cJ8_vectorizedMismatch_456ae 263 = .ok (.iload 10, 2) := by decide +kernel
theorem dJ8_vectorizedMismatch_456ae_265 : decode cJ8_vectorizedMismatch_456ae 265 = .ok (.iconst (-1), 1) := by decide +kernel
theorem dJ8_vectorizedMismatch_456ae_266 : decode cJ8_vectorizedMismatch_456ae 266 = .ok (.ixor, 1) := by decide +kernel
theorem dJ8_vectorizedMismatch_456ae_267 : decode cJ8_vectorizedMismatch_456ae 267 = .ok (.ireturn, 1) := by decide +kernel
theorem dJ8_mismatch_05dfe_0 : decode cJ8_mismatch_05dfe 0 = .ok (.iconst 0, 1) := by decide +kernel
theorem dJ8_mismatch_05dfe_1 : decode cJ8_mismatch_05dfe 1 = .ok (.istore_n 3, 1) := by decide +kernel
theorem dJ8_mismatch_05dfe_2 : decode cJ8_mismatch_05dfe 2 = .ok (.iload_n 2, 1) := by decide +kernel
theorem dJ8_mismatch_05dfe_3 : decode cJ8_mismatch_05dfe 3 = .ok (.iconst 1, 1) := by decide +kernel
theorem dJ8_mismatch_05dfe_4 : decode cJ8_mismatch_05dfe 4 = .ok (.if_icmp .le 44, 3) := by decide +kernel
theorem dJ8_mismatch_05dfe_7 : decode cJ8_mismatch_05dfe 7 = .ok (.aload_n 0, 1) := by decide +kernel
theorem dJ8_mismatch_05dfe_8 : decode cJ8_mismatch_05dfe 8 = .ok (.iconst 0, 1) := by decide +kernel
theorem dJ8_mismatch_05dfe_9 : decode cJ8_mismatch_05dfe 9 = .ok (.iaload, 1) := by decide +kernel
theorem dJ8_mismatch_05dfe_10 : decode cJ8_mismatch_05dfe 10 = .ok (.aload_n 1, 1) := by decide +kernel
theorem dJ8_mismatch_05dfe_11 : decode cJ8_mismatch_05dfe 11 = .ok (.iconst 0, 1) := by decide +kernel
theorem dJ8_mismatch_05dfe_12 : decode cJ8_mismatch_05dfe 12 = .ok (.iaload, 1) := by decide +kernel
theorem dJ8_mismatch_05dfe_13 : decode cJ8_mismatch_05dfe 13 = .ok (.if_icmp .eq 5, 3) := by decide +kernel
theorem dJ8_mismatch_05dfe_16 : decode cJ8_mismatch_05dfe 16 = .ok (.iconst 0, 1) := by decide +kernel
theorem dJ8_mismatch_05dfe_17 : decode cJ8_mismatch_05dfe 17 = .ok (.ireturn, 1) := by decide +kernel
theorem dJ8_mismatch_05dfe_18 : decode cJ8_mismatch_05dfe 18 = .ok (.aload_n 0, 1) := by decide +kernel
theorem dJ8_mismatch_05dfe_19 : decode cJ8_mismatch_05dfe 19 = .ok (.getstatic 144, 3) := by decide +kernel
theorem dJ8_mismatch_05dfe_22 : decode cJ8_mismatch_05dfe 22 = .ok (.i2l, 1) := by decide +kernel
theorem dJ8_mismatch_05dfe_23 : decode cJ8_mismatch_05dfe 23 = .ok (.aload_n 1, 1) := by decide +kernel
theorem dJ8_mismatch_05dfe_24 : decode cJ8_mismatch_05dfe 24 = .ok (.getstatic 144, 3) := by decide +kernel
theorem dJ8_mismatch_05dfe_27 : decode cJ8_mismatch_05dfe 27 = .ok (.i2l, 1) := by decide +kernel
theorem dJ8_mismatch_05dfe_28 : decode cJ8_mismatch_05dfe 28 = .ok (.iload_n 2, 1) := by decide +kernel
theorem dJ8_mismatch_05dfe_29 : decode cJ8_mismatch_05dfe 29 = .ok (.getstatic 51, 3) := by decide +kernel
theorem dJ8_mismatch_05dfe_32 : decode cJ8_mismatch_05dfe 32 = .ok (.invokestatic 122, 3) := by decide +kernel
theorem dJ8_mismatch_05dfe_35 : decode cJ8_mismatch_05dfe 35 = .ok (.istore_n 3, 1) := by decide +kernel
theorem dJ8_mismatch_05dfe_36 : decode cJ8_mismatch_05dfe 36 = .ok (.iload_n 3, 1) := by decide +kernel
theorem dJ8_mismatch_05dfe_37 : decode cJ8_mismatch_05dfe 37 = .ok (.ifCond .lt 5, 3) := by decide +kernel
theorem dJ8_mismatch_05dfe_40 : decode cJ8_mismatch_05dfe 40 = .ok (.iload_n 3, 1) := by decide +kernel
theorem dJ8_mismatch_05dfe_41 : decode cJ8_mismatch_05dfe 41 = .ok (.ireturn, 1) := by decide +kernel
theorem dJ8_mismatch_05dfe_42 : decode cJ8_mismatch_05dfe 42 = .ok (.iload_n 2, 1) := by decide +kernel
theorem dJ8_mismatch_05dfe_43 : decode cJ8_mismatch_05dfe 43 = .ok (.iload_n 3, 1) := by decide +kernel
theorem dJ8_mismatch_05dfe_44 : decode cJ8_mismatch_05dfe 44 = .ok (.iconst (-1), 1) := by decide +kernel
theorem dJ8_mismatch_05dfe_45 : decode cJ8_mismatch_05dfe 45 = .ok (.ixor, 1) := by decide +kernel
theorem dJ8_mismatch_05dfe_46 : decode cJ8_mismatch_05dfe 46 = .ok (.isub, 1) := by decide +kernel
theorem dJ8_mismatch_05dfe_47 : decode cJ8_mismatch_05dfe 47 = .ok (.istore_n 3, 1) := by decide +kernel
theorem dJ8_mismatch_05dfe_48 : decode cJ8_mismatch_05dfe 48 = .ok (.iload_n 3, 1) := by decide +kernel
theorem dJ8_mismatch_05dfe_49 : decode cJ8_mismatch_05dfe 49 = .ok (.iload_n 2, 1) := by decide +kernel
theorem dJ8_mismatch_05dfe_50 : decode cJ8_mismatch_05dfe 50 = .ok (.if_icmp .ge 20, 3) := by decide +kernel
theorem dJ8_mismatch_05dfe_53 : decode cJ8_mismatch_05dfe 53 = .ok (.aload_n 0, 1) := by decide +kernel
theorem dJ8_mismatch_05dfe_54 : decode cJ8_mismatch_05dfe 54 = .ok (.iload_n 3, 1) := by decide +kernel
theorem dJ8_mismatch_05dfe_55 : decode cJ8_mismatch_05dfe 55 = .ok (.iaload, 1) := by decide +kernel
theorem dJ8_mismatch_05dfe_56 : decode cJ8_mismatch_05dfe 56 = .ok (.aload_n 1, 1) := by decide +kernel
theorem dJ8_mismatch_05dfe_57 : decode cJ8_mismatch_05dfe 57 = .ok (.iload_n 3, 1) := by decide +kernel
theorem dJ8_mismatch_05dfe_58 : decode cJ8_mismatch_05dfe 58 = .ok (.iaload, 1) := by decide +kernel
theorem dJ8_mismatch_05dfe_59 : decode cJ8_mismatch_05dfe 59 = .ok (.if_icmp .eq 5, 3) := by decide +kernel
theorem dJ8_mismatch_05dfe_62 : decode cJ8_mismatch_05dfe 62 = .ok (.iload_n 3, 1) := by decide +kernel
theorem dJ8_mismatch_05dfe_63 : decode cJ8_mismatch_05dfe 63 = .ok (.ireturn, 1) := by decide +kernel
theorem dJ8_mismatch_05dfe_64 : decode cJ8_mismatch_05dfe 64 = .ok (.iinc 3 1, 3) := by decide +kernel
theorem dJ8_mismatch_05dfe_67 : decode cJ8_mismatch_05dfe 67 = .ok (.goto (-19), 3) := by decide +kernel
theorem dJ8_mismatch_05dfe_70 : decode cJ8_mismatch_05dfe 70 = .ok (.iconst (-1), 1) := by decide +kernel
theorem dJ8_mismatch_05dfe_71 : decode cJ8_mismatch_05dfe 71 = .ok (.ireturn, 1) := by decide +kernel
