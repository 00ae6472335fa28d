set_option maxRecDepth 20000 in
theorem ggX3_mends_X3_isBead : GoodIn wsX3_mends wsX3_isBead := goodIn_r _ [8, 9, 47, 48, 49, 50, 51, 52, 53, 54] (by decide +kernel) (by decide +kernel)
set_option maxRecDepth 20000 in
theorem gX3_mends_X3_isBead : GoodIn wsX3_mends (wsV RX3 163 RX3 yX3_isBead wsX3_isBead) := goodIn_app (goodIn_of _ (by decide +kernel)) ggX3_mends_X3_isBead
set_option maxRecDepth 20000 in
theorem ggX3_mends_X3_canFillBead : GoodIn wsX3_mends wsX3_canFillBead := goodIn_r _ [13, 14, 15, 16, 17, 7, 18, 19, 20, 21, 22, 23, 24, 25, 47, 48, 49, 50, 51, 52, 53, 54, 55, 56, 57, 58, 59] (by decide +kernel) (by decide +kernel)
set_option maxRecDepth 20000 in
theorem gX3_mends_X3_canFillBead : GoodIn wsX3_mends (wsV RX3 219 RX3 yX3_canFillBead wsX3_canFillBead) := goodIn_app (goodIn_of _ (by decide +kernel)) ggX3_mends_X3_canFillBead
set_option maxRecDepth 20000 in
theorem ggX3_mends_X3_eyesLike : GoodIn wsX3_mends wsX3_eyesLike := goodIn_r _ [29, 3, 30, 31, 32, 33, 34, 35, 36, 37, 38, 39, 40, 41, 42, 43, 44, 45, 46, 47, 48, 49, 50, 51, 52, 53, 54, 55, 56, 57, 58, 59, 60] (by decide +kernel) (by decide +kernel)
set_option maxRecDepth 20000 in
theorem gX3_mends_X3_eyesLike : GoodIn wsX3_mends (wsV RX3 222 RX3 yX3_eyesLike wsX3_eyesLike) := goodIn_app (goodIn_of _ (by decide +kernel)) ggX3_mends_X3_eyesLike
set_option maxRecDepth 20000 in
theorem ggX3_mends_X3_freeSlicesOf : GoodIn wsX3_mends wsX3_freeSlicesOf := goodIn_r _ [18, 19, 20, 21, 22, 23, 24, 25, 47, 48, 49, 50, 51, 52, 53, 54, 55, 56, 57, 58, 59] (by decide +kernel) (by decide +kernel)
set_option maxRecDepth 20000 in
theorem gX3_mends_X3_freeSlicesOf : GoodIn wsX3_mends (wsV RX3 229 RX3 yX3_freeSlicesOf wsX3_freeSlicesOf) := goodIn_app (goodIn_of _ (by decide +kernel)) ggX3_mends_X3_freeSlicesOf
theorem dX3_mends_0 : decode cX3_mends 0 = .ok (.aload_n 0, 1) := by decide +kernel
theorem dX3_mends_1 : decode cX3_mends 1 = .ok (.iload_n 1, 1) := by decide +kernel
theorem dX3_mends_2 : decode cX3_mends 2 = .ok (.invokevirtual 163, 3) := by decide +kernel
theorem dX3_mends_5 : decode cX3_mends 5 = .ok (.ifCond .ne 13, 3) := by decide +kernel
theorem dX3_mends_8 : decode cX3_mends 8 = .ok (.new 43, 3) := by decide +kernel
theorem dX3_mends_11 : decode cX3_mends 11 = .ok (.dup, 1) := by decide +kernel
theorem dX3_mends_12 : decode cX3_mends 12 = .ok (.ldc 217, 2) := by decide +kernel
theorem dX3_mends_14 : decode cX3_mends 14 = .ok (.invokespecial 47, 3) := by decide +kernel
theorem dX3_mends_17 : decode cX3_mends 17 = .ok (.athrow, 1) := by decide +kernel
theorem dX3_mends_18 : decode cX3_mends 18 = .ok (.aload_n 0, 1) := by decide +kernel
theorem dX3_mends_19 : decode cX3_mends 19 = .ok (.invokevirtual 219, 3) := by decide +kernel
theorem dX3_mends_22 : decode cX3_mends 22 = .ok (.ifCond .eq 7, 3) := by decide +kernel
theorem dX3_mends_25 : decode cX3_mends 25 = .ok (.iconst 4, 1) := by decide +kernel
theorem dX3_mends_26 : decode cX3_mends 26 = .ok (.goto 4, 3) := by decide +kernel
theorem dX3_mends_29 : decode cX3_mends 29 = .ok (.iconst (-1), 1) := by decide +kernel
theorem dX3_mends_30 : decode cX3_mends 30 = .ok (.istore_n 2, 1) := by decide +kernel
theorem dX3_mends_31 : decode cX3_mends 31 = .ok (.iconst 0, 1) := by decide +kernel
theorem dX3_mends_32 : decode cX3_mends 32 = .ok (.istore_n 3, 1) := by decide +kernel
theorem dX3_mends_33 : decode cX3_mends 33 = .ok (.iload_n 3, 1) := by decide +kernel
theorem dX3_mends_34 : decode cX3_mends 34 = .ok (.iconst 4, 1) := by decide +kernel
theorem dX3_mends_35 : decode cX3_mends 35 = .ok (.if_icmp .ge 77, 3) := by decide +kernel
theorem dX3_mends_38 : decode cX3_mends 38 = .ok (.aload_n 0, 1) := by decide +kernel
theorem dX3_mends_39 : decode cX3_mends 39 = .ok (.getfield 21, 3) := by decide +kernel
theorem dX3_mends_42 : decode cX3_mends 42 = .ok (.iconst 4, 1) := by decide +kernel
theorem dX3_mends_43 : decode cX3_mends 43 = .ok (.iload_n 1, 1) := by decide +kernel
theorem dX3_mends_44 : decode cX3_mends 44 = .ok (.imul, 1) := by decide +kernel
theorem dX3_mends_45 : decode cX3_mends 45 = .ok (.iload_n 3, 1) := by decide +kernel
theorem dX3_mends_46 : decode cX3_mends 46 = .ok (.iadd, 1) := by decide +kernel
theorem dX3_mends_47 : decode cX3_mends 47 = .ok (.aaload, 1) := by decide +kernel
theorem dX3_mends_48 : decode cX3_mends 48 = .ok (.astore 4, 2) := by decide +kernel
theorem dX3_mends_50 : decode cX3_mends 50 = .ok (.aload 4, 2) := by decide +kernel
theorem dX3_mends_52 : decode cX3_mends 52 = .ok (.ifnull 54, 3) := by decide +kernel
theorem dX3_mends_55 : decode cX3_mends 55 = .ok (.iconst 4, 1) := by decide +kernel
theorem dX3_mends_56 : decode cX3_mends 56 = .ok (.aload_n 0, 1) := by decide +kernel
theorem dX3_mends_57 : decode cX3_mends 57 = .ok (.iload_n 1, 1) := by decide +kernel
theorem dX3_mends_58 : decode cX3_mends 58 = .ok (.aload 4, 2) := by decide +kernel
theorem dX3_mends_60 : decode cX3_mends 60 = .ok (.invokevirtual 222, 3) := by decide +kernel
theorem dX3_mends_63 : decode cX3_mends 63 = .ok (.isub, 1) := by decide +kernel
theorem dX3_mends_64 : decode cX3_mends 64 = .ok (.istore 5, 2) := by decide +kernel
theorem dX3_mends_66 : decode cX3_mends 66 = .ok (.iload_n 2, 1) := by decide +kernel
theorem dX3_mends_67 : decode cX3_mends 67 = .ok (.iconst (-1), 1) := by decide +kernel
theorem dX3_mends_68 : decode cX3_mends 68 = .ok (.if_icmp .eq 9, 3) := by decide +kernel
theorem dX3_mends_71 : decode cX3_mends 71 = .ok (.iload 5, 2) := by decide +kernel
theorem dX3_mends_73 : decode cX3_mends 73 = .ok (.iload_n 2, 1) := by decide +kernel
theorem dX3_mends_74 : decode cX3_mends 74 = .ok (.if_icmp .ge 7, 3) := by decide +kernel
theorem dX3_mends_77 : decode cX3_mends 77 = .ok (.iconst 1, 1) := by decide +kernel
theorem dX3_mends_78 : decode cX3_mends 78 = .ok (.goto 4, 3) := by decide +kernel
theorem dX3_mends_81 : decode cX3_mends 81 = .ok (.iconst 0, 1) := by decide +kernel
theorem dX3_mends_82 : decode cX3_mends 82 = .ok (.istore 6, 2) := by decide +kernel
theorem dX3_mends_84 : decode cX3_mends 84 = .ok (.iload 6, 2) := by decide +kernel
theorem dX3_mends_86 : decode cX3_mends 86 = .ok (.ifCond .eq 20, 3) := by decide +kernel
theorem dX3_mends_89 : decode cX3_mends 89 = .ok (.iload 5, 2) := by decide +kernel
theorem dX3_mends_91 : decode cX3_mends 91 = .ok (.aload_n 0, 1) := by decide +kernel
theorem dX3_mends_92 : decode cX3_mends 92 = .ok (.aload 4, 2) := by decide +kernel
theorem dX3_mends_94 : decode cX3_mends 94 = .ok (.getfield 226, 3) := by decide +kernel
theorem dX3_mends_97 : decode cX3_mends 97 = .ok (.invokevirtual 229, 3) := by decide +kernel
theorem dX3_mends_100 : decode cX3_mends 100 = .ok (.if_icmp .gt 6, 3) := by decide +kernel
theorem dX3_mends_103 : decode cX3_mends 103 = .ok (.iload 5, 2) := by decide +kernel
theorem dX3_mends_105 : decode cX3_mends 105 = .ok (.istore_n 2, 1) := by decide +kernel
theorem dX3_mends_106 : decode cX3_mends 106 = .ok (.iinc 3 1, 3) := by decide +kernel
theorem dX3_mends_109 : decode cX3_mends 109 = .ok (.goto (-76), 3) := by decide +kernel
theorem dX3_mends_112 : decode cX3_mends 112 = .ok (.iload_n 2, 1) := by decide +kernel
theorem dX3_mends_113 : decode cX3_mends 113 = .ok (.ireturn, 1) := by decide +kernel
set_option maxRecDepth 20000 in
theorem ggX3_mean_X3_heatOfAll : GoodIn wsX3_mean wsX3_heatOfAll := goodIn_r _ [6, 7, 8, 9, 10, 11, 12, 13, 14, 15, 16, 17, 18, 19, 20] (by decide +kernel) (by decide +kernel)
set_option maxRecDepth 20000 in
theorem gX3_mean_X3_heatOfAll : GoodIn wsX3_mean (wsV RX3 99 RX3 yX3_heatOfAll wsX3_heatOfAll) := goodIn_app (goodIn_of _ (by decide +kernel)) ggX3_mean_X3_heatOfAll
theorem dX3_mean_0 : decode cX3_mean 0 = .ok (.aload_n 0, 1) := by decide +kernel
theorem dX3_mean_1 : decode cX3_mean 1 = .ok (.getfield 28, 3) := by decide +kernel
theorem dX3_mean_4 : decode cX3_mean 4 = .ok (.ifCond .ne 7, 3) := by decide +kernel
theorem dX3_mean_7 : decode cX3_mean 7 = .ok (.dconst 0, 1) := by decide +kernel
theorem dX3_mean_8 : decode cX3_mean 8 = .ok (.goto 14, 3) := by decide +kernel
theorem dX3_mean_11 : decode cX3_mean 11 = .ok (.aload_n 0, 1) := by decide +kernel
theorem dX3_mean_12 : decode cX3_mean 12 = .ok (.invokevirtual 99, 3) := by decide +kernel
theorem dX3_mean_15 : decode cX3_mean 15 = .ok (.i2d, 1) := by decide +kernel
theorem dX3_mean_16 : decode cX3_mean 16 = .ok (.aload_n 0, 1) := by decide +kernel
theorem dX3_mean_17 : decode cX3_mean 17 = .ok (.getfield 28, 3) := by decide +kernel
theorem dX3_mean_20 : decode cX3_mean 20 = .ok (.i2d, 1) := by decide +kernel
theorem dX3_mean_21 : decode cX3_mean 21 = .ok (.ddiv, 1) := by decide +kernel
theorem dX3_mean_22 : decode cX3_mean 22 = .ok (.dreturn, 1) := by decide +kernel
set_option maxRecDepth 20000 in
theorem ggX3_digest_X3_tally : GoodIn wsX3_digest wsX3_tally := goodIn_r _ [6, 7, 8, 9, 10, 11, 12, 13, 5, 14, 15, 16, 17, 18, 19, 20, 21, 22, 23, 24, 25, 26, 27, 28, 29, 30, 31, 32, 33, 34, 35, 36, 37, 38, 39, 40, 41, 42, 43, 44, 45, 46, 47, 48, 49, 80, 81, 82, 83, 84, 85, 86, 87, 88, 89, 90, 91, 92, 93, 94, 95, 96, 97, 98] (by decide +kernel) (by decide +kernel)
set_option maxRecDepth 20000 in
theorem gX3_digest_X3_tally : GoodIn wsX3_digest (wsV RX3 203 RX3 yX3_tally wsX3_tally) := goodIn_app (goodIn_of _ (by decide +kernel)) ggX3_digest_X3_tally
set_option maxRecDepth 20000 in
theorem ggX3_digest_X3_digestWith : GoodIn wsX3_digest wsX3_digestWith := goodIn_r _ [52, 53] (by decide +kernel) (by decide +kernel)
set_option maxRecDepth 20000 in
theorem gX3_digest_X3_digestWith : GoodIn wsX3_digest (va_wsS RX3 234 yX3_digestWith wsX3_digestWith) := goodIn_app (goodIn_of _ (by decide +kernel)) ggX3_digest_X3_digestWith
set_option maxRecDepth 20000 in
theorem ggX3_digest_X3_digestWithCanes : GoodIn wsX3_digest wsX3_digestWithCanes := goodIn_r _ [57, 15, 58, 59, 60, 61, 62, 63, 64, 65, 66, 67, 50, 51, 5, 52, 53, 68, 69, 70, 80, 81, 82, 83, 84, 85, 86, 87, 88, 89, 90, 91, 92, 98] (by decide +kernel) (by decide +kernel)
set_option maxRecDepth 20000 in
theorem gX3_digest_X3_digestWithCanes : GoodIn wsX3_digest (wsV RX3 238 RX3 yX3_digestWithCanes wsX3_digestWithCanes) := goodIn_app (goodIn_of _ (by decide +kernel)) ggX3_digest_X3_digestWithCanes
set_option maxRecDepth 20000 in
theorem ggX3_digest_X3_digestWithSlices : GoodIn wsX3_digest wsX3_digestWithSlices := goodIn_r _ [74, 75, 68, 69, 5, 70, 50, 51, 52, 53, 80, 81, 82, 83, 84, 85, 86, 87, 93, 94, 95, 96, 97, 98] (by decide +kernel) (by decide +kernel)
set_option maxRecDepth 20000 in
theorem gX3_digest_X3_digestWithSlices : GoodIn wsX3_digest (wsV RX3 242 RX3 yX3_digestWithSlices wsX3_digestWithSlices) := goodIn_app (goodIn_of _ (by decide +kernel)) ggX3_digest_X3_digestWithSlices
set_option maxRecDepth 20000 in
theorem ggX3_digest_X3_digestWithEyes : GoodIn wsX3_digest wsX3_digestWithEyes := goodIn_r _ [79, 10, 20, 50, 51, 5, 52, 53, 80, 81, 82, 83, 84, 85, 86, 87, 93, 94, 95, 96, 97] (by decide +kernel) (by decide +kernel)
set_option maxRecDepth 20000 in
theorem gX3_digest_X3_digestWithEyes : GoodIn wsX3_digest (wsV RX3 245 RX3 yX3_digestWithEyes wsX3_digestWithEyes) := goodIn_app (goodIn_of _ (by decide +kernel)) ggX3_digest_X3_digestWithEyes
theorem dX3_digest_0 : decode cX3_digest 0 = .ok (.ldc2_w 232, 3) := by decide +kernel
theorem dX3_digest_3 : decode cX3_digest 3 = .ok (.lstore_n 1, 1) := by decide +kernel
theorem dX3_digest_4 : decode cX3_digest 4 = .ok (.iconst 0, 1) := by decide +kernel
theorem dX3_digest_5 : decode cX3_digest 5 = .ok (.istore_n 3, 1) := by decide +kernel
theorem dX3_digest_6 : decode cX3_digest 6 = .ok (.iload_n 3, 1) := by decide +kernel
theorem dX3_digest_7 : decode cX3_digest 7 = .ok (.bipush 8, 2) := by decide +kernel
theorem dX3_digest_9 : decode cX3_digest 9 = .ok (.if_icmp .ge 19, 3) := by decide +kernel
theorem dX3_digest_12 : decode cX3_digest 12 = .ok (.lload_n 1, 1) := by decide +kernel
theorem dX3_digest_13 : decode cX3_digest 13 = .ok (.aload_n 0, 1) := by decide +kernel
theorem dX3_digest_14 : decode cX3_digest 14 = .ok (.iload_n 3, 1) := by decide +kernel
theorem dX3_digest_15 : decode cX3_digest 15 = .ok (.invokevirtual 203, 3) := by decide +kernel
theorem dX3_digest_18 : decode cX3_digest 18 = .ok (.invokestatic 234, 3) := by decide +kernel
theorem dX3_digest_21 : decode cX3_digest 21 = .ok (.lstore_n 1, 1) := by decide +kernel
theorem dX3_digest_22 : decode cX3_digest 22 = .ok (.iinc 3 1, 3) := by decide +kernel
theorem dX3_digest_25 : decode cX3_digest 25 = .ok (.goto (-19), 3) := by decide +kernel
theorem dX3_digest_28 : decode cX3_digest 28 = .ok (.aload_n 0, 1) := by decide +kernel
theorem dX3_digest_29 : decode cX3_digest 29 = .ok (.lload_n 1, 1) := by decide +kernel
theorem dX3_digest_30 : decode cX3_digest 30 = .ok (.invokevirtual 238, 3) := by decide +kernel
theorem dX3_digest_33 : decode cX3_digest 33 = .ok (.lstore_n 1, 1) := by decide +kernel
theorem dX3_digest_34 : decode cX3_digest 34 = .ok (.aload_n 0, 1) := by decide +kernel
theorem dX3_digest_35 : decode cX3_digest 35 = .ok (.lload_n 1, 1) := by decide +kernel
theorem dX3_digest_36 : decode cX3_digest 36 = .ok (.invokevirtual 242, 3) := by decide +kernel
theorem dX3_digest_39 : decode cX3_digest 39 = .ok (.lstore_n 1, 1) := by decide +kernel
theorem dX3_digest_40 : decode cX3_digest 40 = .ok (.aload_n 0, 1) := by decide +kernel
theorem dX3_digest_41 : decode cX3_digest 41 = .ok (.lload_n 1, 1) := by decide +kernel
theorem dX3_digest_42 : decode cX3_digest 42 = .ok (.invokevirtual 245, 3) := by decide +kernel
theorem dX3_digest_45 : decode cX3_digest 45 = .ok (.lreturn, 1) := by decide +kernel
theorem dX3_caneAt_0 : decode cX3_caneAt 0 = .ok (.iload_n 1, 1) := by decide +kernel
theorem dX3_caneAt_1 : decode cX3_caneAt 1 = .ok (.ifCond .lt 18, 3) := by decide +kernel
theorem dX3_caneAt_4 : decode cX3_caneAt 4 = .ok (.iload_n 1, 1) := by decide +kernel
theorem dX3_caneAt_5 : decode cX3_caneAt 5 = .ok (.bipush 8, 2) := by decide +kernel
theorem dX3_caneAt_7 : decode cX3_caneAt 7 = .ok (.if_icmp .ge 12, 3) := by decide +kernel
theorem dX3_caneAt_10 : decode cX3_caneAt 10 = .ok (.aload_n 0, 1) := by decide +kernel
theorem dX3_caneAt_11 : decode cX3_caneAt 11 = .ok (.getfield 11, 3) := by decide +kernel
theorem dX3_caneAt_14 : decode cX3_caneAt 14 = .ok (.iload_n 1, 1) := by decide +kernel
theorem dX3_caneAt_15 : decode cX3_caneAt 15 = .ok (.aaload, 1) := by decide +kernel
theorem dX3_caneAt_16 : decode cX3_caneAt 16 = .ok (.goto 4, 3) := by decide +kernel
theorem dX3_caneAt_19 : decode cX3_caneAt 19 = .ok (.aconst_null, 1) := by decide +kernel
theorem dX3_caneAt_20 : decode cX3_caneAt 20 = .ok (.areturn, 1) := by decide +kernel
theorem dX3_sliceAt_0 : decode cX3_sliceAt 0 = .ok (.iload_n 1, 1) := by decide +kernel
theorem dX3_sliceAt_1 : decode cX3_sliceAt 1 = .ok (.ifCond .lt 18, 3) := by decide +kernel
theorem dX3_sliceAt_4 : decode cX3_sliceAt 4 = .ok (.iload_n 1, 1) := by decide +kernel
theorem dX3_sliceAt_5 : decode cX3_sliceAt 5 = .ok (.bipush 60, 2) := by decide +kernel
theorem dX3_sliceAt_7 : decode cX3_sliceAt 7 = .ok (.if_icmp .ge 12, 3) := by decide +kernel
theorem dX3_sliceAt_10 : decode cX3_sliceAt 10 = .ok (.aload_n 0, 1) := by decide +kernel
theorem dX3_sliceAt_11 : decode cX3_sliceAt 11 = .ok (.getfield 17, 3) := by decide +kernel
theorem dX3_sliceAt_14 : decode cX3_sliceAt 14 = .ok (.iload_n 1, 1) := by decide +kernel
theorem dX3_sliceAt_15 : decode cX3_sliceAt 15 = .ok (.aaload, 1) := by decide +kernel
theorem dX3_sliceAt_16 : decode cX3_sliceAt 16 = .ok (.goto 4, 3) := by decide +kernel
theorem dX3_sliceAt_19 : decode cX3_sliceAt 19 = .ok (.aconst_null, 1) := by decide +kernel
theorem dX3_sliceAt_20 : decode cX3_sliceAt 20 = .ok (.areturn, 1) := by decide +kernel
theorem dX3_isBead_0 : decode cX3_isBead 0 = .ok (.iload_n 1, 1) := by decide +kernel
theorem dX3_isBead_1 : decode cX3_isBead 1 = .ok (.ifCond .lt 15, 3) := by decide +kernel
theorem dX3_isBead_4 : decode cX3_isBead 4 = .ok (.iload_n 1, 1) := by decide +kernel
theorem dX3_isBead_5 : decode cX3_isBead 5 = .ok (.aload_n 0, 1) := by decide +kernel
theorem dX3_isBead_6 : decode cX3_isBead 6 = .ok (.getfield 158, 3) := by decide +kernel
theorem dX3_isBead_9 : decode cX3_isBead 9 = .ok (.if_icmp .ge 7, 3) := by decide +kernel
theorem dX3_isBead_12 : decode cX3_isBead 12 = .ok (.iconst 1, 1) := by decide +kernel
theorem dX3_isBead_13 : decode cX3_isBead 13 = .ok (.goto 4, 3) := by decide +kernel
theorem dX3_isBead_16 : decode cX3_isBead 16 = .ok (.iconst 0, 1) := by decide +kernel
theorem dX3_isBead_17 : decode cX3_isBead 17 = .ok (.ireturn, 1) := by decide +kernel
theorem dX3_isEye_0 : decode cX3_isEye 0 = .ok (.iload_n 0, 1) := by decide +kernel
theorem dX3_isEye_1 : decode cX3_isEye 1 = .ok (.ifCond .lt 12, 3) := by decide +kernel
theorem dX3_isEye_4 : decode cX3_isEye 4 = .ok (.iload_n 0, 1) := by decide +kernel
theorem dX3_isEye_5 : decode cX3_isEye 5 = .ok (.iconst 4, 1) := by decide +kernel
theorem dX3_isEye_6 : decode cX3_isEye 6 = .ok (.if_icmp .ge 7, 3) := by decide +kernel
theorem dX3_isEye_9 : decode cX3_isEye 9 = .ok (.iconst 1, 1) := by decide +kernel
theorem dX3_isEye_10 : decode cX3_isEye 10 = .ok (.goto 4, 3) := by decide +kernel
theorem dX3_isEye_13 : decode cX3_isEye 13 = .ok (.iconst 0, 1) := by decide +kernel
theorem dX3_isEye_14 : decode cX3_isEye 14 = .ok (.ireturn, 1) := by decide +kernel
theorem dX3_isRing_0 : decode cX3_isRing 0 = .ok (.iload_n 0, 1) := by decide +kernel
theorem dX3_isRing_1 : decode cX3_isRing 1 = .ok (.ifCond .lt 12, 3) := by decide +kernel
theorem dX3_isRing_4 : decode cX3_isRing 4 = .ok (.iload_n 0, 1) := by decide +kernel
theorem dX3_isRing_5 : decode cX3_isRing 5 = .ok (.iconst 3, 1) := by decide +kernel
theorem dX3_isRing_6 : decode cX3_isRing 6 = .ok (.if_icmp .ge 7, 3) := by decide +kernel
theorem dX3_isRing_9 : decode cX3_isRing 9 = .ok (.iconst 1, 1) := by decide +kernel
theorem dX3_isRing_10 : decode cX3_isRing 10 = .ok (.goto 4, 3) := by decide +kernel
theorem dX3_isRing_13 : decode cX3_isRing 13 = .ok (.iconst 0, 1) := by decide +kernel
theorem dX3_isRing_14 : decode cX3_isRing 14 = .ok (.ireturn, 1) := by decide +kernel
theorem dX3_isSector_0 : decode cX3_isSector 0 = .ok (.iload_n 0, 1) := by decide +kernel
theorem dX3_isSector_1 : decode cX3_isSector 1 = .ok (.ifCond .lt 13, 3) := by decide +kernel
theorem dX3_isSector_4 : decode cX3_isSector 4 = .ok (.iload_n 0, 1) := by decide +kernel
theorem dX3_isSector_5 : decode cX3_isSector 5 = .ok (.bipush 8, 2) := by decide +kernel
theorem dX3_isSector_7 : decode cX3_isSector 7 = .ok (.if_icmp .ge 7, 3) := by decide +kernel
theorem dX3_isSector_10 : decode cX3_isSector 10 = .ok (.iconst 1, 1) := by decide +kernel
theorem dX3_isSector_11 : decode cX3_isSector 11 = .ok (.goto 4, 3) := by decide +kernel
theorem dX3_isSector_14 : decode cX3_isSector 14 = .ok (.iconst 0, 1) := by decide +kernel
theorem dX3_isSector_15 : decode cX3_isSector 15 = .ok (.ireturn, 1) := by decide +kernel
theorem dX3_isTwist_0 : decode cX3_isTwist 0 = .ok (.iload_n 0, 1) := by decide +kernel
theorem dX3_isTwist_1 : decode cX3_isTwist 1 = .ok (.bipush (-4), 2) := by decide +kernel
theorem dX3_isTwist_3 : decode cX3_isTwist 3 = .ok (.if_icmp .lt 12, 3) := by decide +kernel
theorem dX3_isTwist_6 : decode cX3_isTwist 6 = .ok (.iload_n 0, 1) := by decide +kernel
theorem dX3_isTwist_7 : decode cX3_isTwist 7 = .ok (.iconst 4, 1) := by decide +kernel
theorem dX3_isTwist_8 : decode cX3_isTwist 8 = .ok (.if_icmp .gt 7, 3) := by decide +kernel
theorem dX3_isTwist_11 : decode cX3_isTwist 11 = .ok (.iconst 1, 1) := by decide +kernel
theorem dX3_isTwist_12 : decode cX3_isTwist 12 = .ok (.goto 4, 3) := by decide +kernel
theorem dX3_isTwist_15 : decode cX3_isTwist 15 = .ok (.iconst 0, 1) := by decide +kernel
theorem dX3_isTwist_16 : decode cX3_isTwist 16 = .ok (.ireturn, 1) := by decide +kernel
set_option maxRecDepth 20000 in
theorem ggX3_passMinute_X0_passMinute : GoodIn wsX3_passMinute wsX0_passMinute := goodIn_r _ [8, 9, 10, 11, 12, 13, 14, 15, 16, 25, 26, 27, 28, 29] (by decide +kernel) (by decide +kernel)
set_option maxRecDepth 20000 in
theorem gX3_passMinute_X0_passMinute : GoodIn wsX3_passMinute (wsV RX3 248 RX0 yX0_passMinute wsX0_passMinute) := goodIn_app (goodIn_of _ (by decide +kernel)) ggX3_passMinute_X0_passMinute
theorem dX3_passMinute_0 : decode cX3_passMinute 0 = .ok (.iconst 0, 1) := by decide +kernel
theorem dX3_passMinute_1 : decode cX3_passMinute 1 = .ok (.istore_n 1, 1) := by decide +kernel
theorem dX3_passMinute_2 : decode cX3_passMinute 2 = .ok (.iload_n 1, 1) := by decide +kernel
theorem dX3_passMinute_3 : decode cX3_passMinute 3 = .ok (.bipush 8, 2) := by decide +kernel
theorem dX3_passMinute_5 : decode cX3_passMinute 5 = .ok (.if_icmp .ge 37, 3) := by decide +kernel
theorem dX3_passMinute_8 : decode cX3_passMinute 8 = .ok (.aload_n 0, 1) := by decide +kernel
theorem dX3_passMinute_9 : decode cX3_passMinute 9 = .ok (.getfield 11, 3) := by decide +kernel
theorem dX3_passMinute_12 : decode cX3_passMinute 12 = .ok (.iload_n 1, 1) := by decide +kernel
theorem dX3_passMinute_13 : decode cX3_passMinute 13 = .ok (.aaload, 1) := by decide +kernel
theorem dX3_passMinute_14 : decode cX3_passMinute 14 = .ok (.astore_n 2, 1) := by decide +kernel
theorem dX3_passMinute_15 : decode cX3_passMinute 15 = .ok (.aload_n 2, 1) := by decide +kernel
theorem dX3_passMinute_16 : decode cX3_passMinute 16 = .ok (.ifnull 20, 3) := by decide +kernel
theorem dX3_passMinute_19 : decode cX3_passMinute 19 = .ok (.aload_n 2, 1) := by decide +kernel
theorem dX3_passMinute_20 : decode cX3_passMinute 20 = .ok (.iload_n 1, 1) := by decide +kernel
theorem dX3_passMinute_21 : decode cX3_passMinute 21 = .ok (.aload_n 0, 1) := by decide +kernel
theorem dX3_passMinute_22 : decode cX3_passMinute 22 = .ok (.getfield 24, 3) := by decide +kernel
theorem dX3_passMinute_25 : decode cX3_passMinute 25 = .ok (.if_icmp .ne 7, 3) := by decide +kernel
theorem dX3_passMinute_28 : decode cX3_passMinute 28 = .ok (.iconst 1, 1) := by decide +kernel
theorem dX3_passMinute_29 : decode cX3_passMinute 29 = .ok (.goto 4, 3) := by decide +kernel
theorem dX3_passMinute_32 : decode cX3_passMinute 32 = .ok (.iconst 0, 1) := by decide +kernel
theorem dX3_passMinute_33 : decode cX3_passMinute 33 = .ok (.invokevirtual 248, 3) := by decide +kernel
theorem dX3_passMinute_36 : decode cX3_passMinute 36 = .ok (.iinc 1 1, 3) := by decide +kernel
theorem dX3_passMinute_39 : decode cX3_passMinute 39 = .ok (.goto (-37), 3) := by decide +kernel
theorem dX3_passMinute_42 : decode cX3_passMinute 42 = .ok (.aload_n 0, 1) := by decide +kernel
theorem dX3_passMinute_43 : decode cX3_passMinute 43 = .ok (.dup, 1) := by decide +kernel
theorem dX3_passMinute_44 : decode cX3_passMinute 44 = .ok (.getfield 251, 3) := by decide +kernel
theorem dX3_passMinute_47 : decode cX3_passMinute 47 = .ok (.iconst 1, 1) := by decide +kernel
theorem dX3_passMinute_48 : decode cX3_passMinute 48 = .ok (.iadd, 1) := by decide +kernel
theorem dX3_passMinute_49 : decode cX3_passMinute 49 = .ok (.putfield 251, 3) := by decide +kernel
theorem dX3_passMinute_52 : decode cX3_passMinute 52 = .ok (.return_, 1) := by decide +kernel
theorem dX3_heatOfAll_0 : decode cX3_heatOfAll 0 = .ok (.iconst 0, 1) := by decide +kernel
theorem dX3_heatOfAll_1 : decode cX3_heatOfAll 1 = .ok (.istore_n 1, 1) := by decide +kernel
theorem dX3_heatOfAll_2 : decode cX3_heatOfAll 2 = .ok (.aload_n 0, 1) := by decide +kernel
theorem dX3_heatOfAll_3 : decode cX3_heatOfAll 3 = .ok (.getfield 11, 3) := by decide +kernel
theorem dX3_heatOfAll_6 : decode cX3_heatOfAll 6 = .ok (.astore_n 2, 1) := by decide +kernel
theorem dX3_heatOfAll_7 : decode cX3_heatOfAll 7 = .ok (.aload_n 2, 1) := by decide +kernel
theorem dX3_heatOfAll_8 : decode cX3_heatOfAll 8 = .ok (.arraylength, 1) := by decide +kernel
theorem dX3_heatOfAll_9 : decode cX3_heatOfAll 9 = .ok (.istore_n 3, 1) := by decide +kernel
theorem dX3_heatOfAll_10 : decode cX3_heatOfAll 10 = .ok (.iconst 0, 1) := by decide +kernel
theorem dX3_heatOfAll_11 : decode cX3_heatOfAll 11 = .ok (.istore 4, 2) := by decide +kernel
theorem dX3_heatOfAll_13 : decode cX3_heatOfAll 13 = .ok (.iload 4, 2) := by decide +kernel
theorem dX3_heatOfAll_15 : decode cX3_heatOfAll 15 = .ok (.iload_n 3, 1) := by decide +kernel
theorem dX3_heatOfAll_16 : decode cX3_heatOfAll 16 = .ok (.if_icmp .ge 28, 3) := by decide +kernel
theorem dX3_heatOfAll_19 : decode cX3_heatOfAll 19 = .ok (.aload_n 2, 1) := by decide +kernel
theorem dX3_heatOfAll_20 : decode cX3_heatOfAll 20 = .ok (.iload 4, 2) := by decide +kernel
theorem dX3_heatOfAll_22 : decode cX3_heatOfAll 22 = .ok (.aaload, 1) := by decide +kernel
theorem dX3_heatOfAll_23 : decode cX3_heatOfAll 23 = .ok (.astore 5, 2) := by decide +kernel
theorem dX3_heatOfAll_25 : decode cX3_heatOfAll 25 = .ok (.aload 5, 2) := by decide +kernel
theorem dX3_heatOfAll_27 : decode cX3_heatOfAll 27 = .ok (.ifnull 11, 3) := by decide +kernel
theorem dX3_heatOfAll_30 : decode cX3_heatOfAll 30 = .ok (.iload_n 1, 1) := by decide +kernel
theorem dX3_heatOfAll_31 : decode cX3_heatOfAll 31 = .ok (.aload 5, 2) := by decide +kernel
theorem dX3_heatOfAll_33 : decode cX3_heatOfAll 33 = .ok (.getfield 106, 3) := by decide +kernel
theorem dX3_heatOfAll_36 : decode cX3_heatOfAll 36 = .ok (.iadd, 1) := by decide +kernel
theorem dX3_heatOfAll_37 : decode cX3_heatOfAll 37 = .ok (.istore_n 1, 1) := by decide +kernel
theorem dX3_heatOfAll_38 : decode cX3_heatOfAll 38 = .ok (.iinc 4 1, 3) := by decide +kernel
theorem dX3_heatOfAll_41 : decode cX3_heatOfAll 41 = .ok (.goto (-28), 3) := by decide +kernel
theorem dX3_heatOfAll_44 : decode cX3_heatOfAll 44 = .ok (.iload_n 1, 1) := by decide +kernel
theorem dX3_heatOfAll_45 : decode cX3_heatOfAll 45 = .ok (.ireturn, 1) := by decide +kernel
theorem dX3_lengthOfAll_0 : decode cX3_lengthOfAll 0 = .ok (.iconst 0, 1) := by decide +kernel
theorem dX3_lengthOfAll_1 : decode cX3_lengthOfAll 1 = .ok (.istore_n 1, 1) := by decide +kernel
theorem dX3_lengthOfAll_2 : decode cX3_lengthOfAll 2 = .ok (.aload_n 0, 1) := by decide +kernel
theorem dX3_lengthOfAll_3 : decode cX3_lengthOfAll 3 = .ok (.getfield 11, 3) := by decide +kernel
theorem dX3_lengthOfAll_6 : decode cX3_lengthOfAll 6 = .ok (.astore_n 2, 1) := by decide +kernel
theorem dX3_lengthOfAll_7 : decode cX3_lengthOfAll 7 = .ok (.aload_n 2, 1) := by decide +kernel
theorem dX3_lengthOfAll_8 : decode cX3_lengthOfAll 8 = .ok (.arraylength, 1) := by decide +kernel
theorem dX3_lengthOfAll_9 : decode cX3_lengthOfAll 9 = .ok (.istore_n 3, 1) := by decide +kernel
theorem dX3_lengthOfAll_10 : decode cX3_lengthOfAll 10 = .ok (.iconst 0, 1) := by decide +kernel
theorem dX3_lengthOfAll_11 : decode cX3_lengthOfAll 11 = .ok (.istore 4, 2) := by decide +kernel
theorem dX3_lengthOfAll_13 : decode cX3_lengthOfAll 13 = .ok (.iload 4, 2) := by decide +kernel
theorem dX3_lengthOfAll_15 : decode cX3_lengthOfAll 15 = .ok (.iload_n 3, 1) := by decide +kernel
theorem dX3_lengthOfAll_16 : decode cX3_lengthOfAll 16 = .ok (.if_icmp .ge 28, 3) := by decide +kernel
theorem dX3_lengthOfAll_19 : decode cX3_lengthOfAll 19 = .ok (.aload_n 2, 1) := by decide +kernel
theorem dX3_lengthOfAll_20 : decode cX3_lengthOfAll 20 = .ok (.iload 4, 2) := by decide +kernel
theorem dX3_lengthOfAll_22 : decode cX3_lengthOfAll 22 = .ok (.aaload, 1) := by decide +kernel
theorem dX3_lengthOfAll_23 : decode cX3_lengthOfAll 23 = .ok (.astore 5, 2) := by decide +kernel
theorem dX3_lengthOfAll_25 : decode cX3_lengthOfAll 25 = .ok (.aload 5, 2) := by decide +kernel
theorem dX3_lengthOfAll_27 : decode cX3_lengthOfAll 27 = .ok (.ifnull 11, 3) := by decide +kernel
theorem dX3_lengthOfAll_30 : decode cX3_lengthOfAll 30 = .ok (.iload_n 1, 1) := by decide +kernel
theorem dX3_lengthOfAll_31 : decode cX3_lengthOfAll 31 = .ok (.aload 5, 2) := by decide +kernel
theorem dX3_lengthOfAll_33 : decode cX3_lengthOfAll 33 = .ok (.getfield 103, 3) := by decide +kernel
theorem dX3_lengthOfAll_36 : decode cX3_lengthOfAll 36 = .ok (.iadd, 1) := by decide +kernel
theorem dX3_lengthOfAll_37 : decode cX3_lengthOfAll 37 = .ok (.istore_n 1, 1) := by decide +kernel
theorem dX3_lengthOfAll_38 : decode cX3_lengthOfAll 38 = .ok (.iinc 4 1, 3) := by decide +kernel
theorem dX3_lengthOfAll_41 : decode cX3_lengthOfAll 41 = .ok (.goto (-28), 3) := by decide +kernel
theorem dX3_lengthOfAll_44 : decode cX3_lengthOfAll 44 = .ok (.iload_n 1, 1) := by decide +kernel
theorem dX3_lengthOfAll_45 : decode cX3_lengthOfAll 45 = .ok (.ireturn, 1) := by decide +kernel
theorem dX3_wholeCanes_0 : decode cX3_wholeCanes 0 = .ok (.iconst 0, 1) := by decide +kernel
theorem dX3_wholeCanes_1 : decode cX3_wholeCanes 1 = .ok (.istore_n 1, 1) := by decide +kernel
theorem dX3_wholeCanes_2 : decode cX3_wholeCanes 2 = .ok (.aload_n 0, 1) := by decide +kernel
theorem dX3_wholeCanes_3 : decode cX3_wholeCanes 3 = .ok (.getfield 11, 3) := by decide +kernel
theorem dX3_wholeCanes_6 : decode cX3_wholeCanes 6 = .ok (.astore_n 2, 1) := by decide +kernel
theorem dX3_wholeCanes_7 : decode cX3_wholeCanes 7 = .ok (.aload_n 2, 1) := by decide +kernel
theorem dX3_wholeCanes_8 : decode cX3_wholeCanes 8 = .ok (.arraylength, 1) := by decide +kernel
theorem dX3_wholeCanes_9 : decode cX3_wholeCanes 9 = .ok (.istore_n 3, 1) := by decide +kernel
theorem dX3_wholeCanes_10 : decode cX3_wholeCanes 10 = .ok (.iconst 0, 1) := by decide +kernel
theorem dX3_wholeCanes_11 : decode cX3_wholeCanes 11 = .ok (.istore 4, 2) := by decide +kernel
theorem dX3_wholeCanes_13 : decode cX3_wholeCanes 13 = .ok (.iload 4, 2) := by decide +kernel
theorem dX3_wholeCanes_15 : decode cX3_wholeCanes 15 = .ok (.iload_n 3, 1) := by decide +kernel
theorem dX3_wholeCanes_16 : decode cX3_wholeCanes 16 = .ok (.if_icmp .ge 31, 3) := by decide +kernel
theorem dX3_wholeCanes_19 : decode cX3_wholeCanes 19 = .ok (.aload_n 2, 1) := by decide +kernel
theorem dX3_wholeCanes_20 : decode cX3_wholeCanes 20 = .ok (.iload 4, 2) := by decide +kernel
theorem dX3_wholeCanes_22 : decode cX3_wholeCanes 22 = .ok (.aaload, 1) := by decide +kernel
theorem dX3_wholeCanes_23 : decode cX3_wholeCanes 23 = .ok (.astore 5, 2) := by decide +kernel
theorem dX3_wholeCanes_25 : decode cX3_wholeCanes 25 = .ok (.aload 5, 2) := by decide +kernel
theorem dX3_wholeCanes_27 : decode cX3_wholeCanes 27 = .ok (.ifnull 14, 3) := by decide +kernel
theorem dX3_wholeCanes_30 : decode cX3_wholeCanes 30 = .ok (.aload 5, 2) := by decide +kernel
theorem dX3_wholeCanes_32 : decode cX3_wholeCanes 32 = .ok (.getfield 62, 3) := by decide +kernel
theorem dX3_wholeCanes_35 : decode cX3_wholeCanes 35 = .ok (.ifCond .ne 6, 3) := by decide +kernel
theorem dX3_wholeCanes_38 : decode cX3_wholeCanes 38 = .ok (.iinc 1 1, 3) := by decide +kernel
theorem dX3_wholeCanes_41 : decode cX3_wholeCanes 41 = .ok (.iinc 4 1, 3) := by decide +kernel
theorem dX3_wholeCanes_44 : decode cX3_wholeCanes 44 = .ok (.goto (-31), 3) := by decide +kernel
theorem dX3_wholeCanes_47 : decode cX3_wholeCanes 47 = .ok (.iload_n 1, 1) := by decide +kernel
theorem dX3_wholeCanes_48 : decode cX3_wholeCanes 48 = .ok (.ireturn, 1) := by decide +kernel
set_option maxRecDepth 20000 in
theorem ggX3_kindOf_X1_leastTurnTo : GoodIn wsX3_kindOf wsX1_leastTurnTo := goodIn_r _ [7, 8, 9, 10, 6, 11, 12, 13, 14, 15, 16, 17, 18, 19, 20, 21, 22, 23, 37] (by decide +kernel) (by decide +kernel)
set_option maxRecDepth 20000 in
theorem gX3_kindOf_X1_leastTurnTo : GoodIn wsX3_kindOf (wsV RX3 212 RX1 yX1_leastTurnTo wsX1_leastTurnTo) := goodIn_app (goodIn_of _ (by decide +kernel)) ggX3_kindOf_X1_leastTurnTo
theorem dX3_kindOf_0 : decode cX3_kindOf 0 = .ok (.iconst 0, 1) := by decide +kernel
theorem dX3_kindOf_1 : decode cX3_kindOf 1 = .ok (.istore_n 2, 1) := by decide +kernel
theorem dX3_kindOf_2 : decode cX3_kindOf 2 = .ok (.iload_n 2, 1) := by decide +kernel
theorem dX3_kindOf_3 : decode cX3_kindOf 3 = .ok (.bipush 60, 2) := by decide +kernel
theorem dX3_kindOf_5 : decode cX3_kindOf 5 = .ok (.if_icmp .ge 34, 3) := by decide +kernel
theorem dX3_kindOf_8 : decode cX3_kindOf 8 = .ok (.aload_n 0, 1) := by decide +kernel
theorem dX3_kindOf_9 : decode cX3_kindOf 9 = .ok (.getfield 17, 3) := by decide +kernel
theorem dX3_kindOf_12 : decode cX3_kindOf 12 = .ok (.iload_n 2, 1) := by decide +kernel
theorem dX3_kindOf_13 : decode cX3_kindOf 13 = .ok (.aaload, 1) := by decide +kernel
theorem dX3_kindOf_14 : decode cX3_kindOf 14 = .ok (.astore_n 3, 1) := by decide +kernel
theorem dX3_kindOf_15 : decode cX3_kindOf 15 = .ok (.aload_n 3, 1) := by decide +kernel
theorem dX3_kindOf_16 : decode cX3_kindOf 16 = .ok (.ifnull 17, 3) := by decide +kernel
theorem dX3_kindOf_19 : decode cX3_kindOf 19 = .ok (.aload_n 1, 1) := by decide +kernel
theorem dX3_kindOf_20 : decode cX3_kindOf 20 = .ok (.aload_n 3, 1) := by decide +kernel
theorem dX3_kindOf_21 : decode cX3_kindOf 21 = .ok (.getfield 152, 3) := by decide +kernel
theorem dX3_kindOf_24 : decode cX3_kindOf 24 = .ok (.invokevirtual 212, 3) := by decide +kernel
theorem dX3_kindOf_27 : decode cX3_kindOf 27 = .ok (.iconst (-1), 1) := by decide +kernel
theorem dX3_kindOf_28 : decode cX3_kindOf 28 = .ok (.if_icmp .eq 5, 3) := by decide +kernel
theorem dX3_kindOf_31 : decode cX3_kindOf 31 = .ok (.iload_n 2, 1) := by decide +kernel
theorem dX3_kindOf_32 : decode cX3_kindOf 32 = .ok (.ireturn, 1) := by decide +kernel
theorem dX3_kindOf_33 : decode cX3_kindOf 33 = .ok (.iinc 2 1, 3) := by decide +kernel
theorem dX3_kindOf_36 : decode cX3_kindOf 36 = .ok (.goto (-34), 3) := by decide +kernel
theorem dX3_kindOf_39 : decode cX3_kindOf 39 = .ok (.aload_n 0, 1) := by decide +kernel
theorem dX3_kindOf_40 : decode cX3_kindOf 40 = .ok (.getfield 111, 3) := by decide +kernel
theorem dX3_kindOf_43 : decode cX3_kindOf 43 = .ok (.ireturn, 1) := by decide +kernel
set_option maxRecDepth 20000 in
theorem ggX3_freeSlicesOf_X2_isFree : GoodIn wsX3_freeSlicesOf wsX2_isFree := goodIn_r _ [6, 7, 16, 17, 18, 19, 20] (by decide +kernel) (by decide +kernel)
set_option maxRecDepth 20000 in
theorem gX3_freeSlicesOf_X2_isFree : GoodIn wsX3_freeSlicesOf (wsV RX3 173 RX2 yX2_isFree wsX2_isFree) := goodIn_app (goodIn_of _ (by decide +kernel)) ggX3_freeSlicesOf_X2_isFree
theorem dX3_freeSlicesOf_0 : decode cX3_freeSlicesOf 0 = .ok (.iconst 0, 1) := by decide +kernel
theorem dX3_freeSlicesOf_1 : decode cX3_freeSlicesOf 1 = .ok (.istore_n 2, 1) := by decide +kernel
theorem dX3_freeSlicesOf_2 : decode cX3_freeSlicesOf 2 = .ok (.aload_n 0, 1) := by decide +kernel
theorem dX3_freeSlicesOf_3 : decode cX3_freeSlicesOf 3 = .ok (.getfield 17, 3) := by decide +kernel
theorem dX3_freeSlicesOf_6 : decode cX3_freeSlicesOf 6 = .ok (.astore_n 3, 1) := by decide +kernel
theorem dX3_freeSlicesOf_7 : decode cX3_freeSlicesOf 7 = .ok (.aload_n 3, 1) := by decide +kernel
theorem dX3_freeSlicesOf_8 : decode cX3_freeSlicesOf 8 = .ok (.arraylength, 1) := by decide +kernel
theorem dX3_freeSlicesOf_9 : decode cX3_freeSlicesOf 9 = .ok (.istore 4, 2) := by decide +kernel
theorem dX3_freeSlicesOf_11 : decode cX3_freeSlicesOf 11 = .ok (.iconst 0, 1) := by decide +kernel
theorem dX3_freeSlicesOf_12 : decode cX3_freeSlicesOf 12 = .ok (.istore 5, 2) := by decide +kernel
theorem dX3_freeSlicesOf_14 : decode cX3_freeSlicesOf 14 = .ok (.iload 5, 2) := by decide +kernel
theorem dX3_freeSlicesOf_16 : decode cX3_freeSlicesOf 16 = .ok (.iload 4, 2) := by decide +kernel
theorem dX3_freeSlicesOf_18 : decode cX3_freeSlicesOf 18 = .ok (.if_icmp .ge 40, 3) := by decide +kernel
theorem dX3_freeSlicesOf_21 : decode cX3_freeSlicesOf 21 = .ok (.aload_n 3, 1) := by decide +kernel
theorem dX3_freeSlicesOf_22 : decode cX3_freeSlicesOf 22 = .ok (.iload 5, 2) := by decide +kernel
theorem dX3_freeSlicesOf_24 : decode cX3_freeSlicesOf 24 = .ok (.aaload, 1) := by decide +kernel
theorem dX3_freeSlicesOf_25 : decode cX3_freeSlicesOf 25 = .ok (.astore 6, 2) := by decide +kernel
theorem dX3_freeSlicesOf_27 : decode cX3_freeSlicesOf 27 = .ok (.aload 6, 2) := by decide +kernel
theorem dX3_freeSlicesOf_29 : decode cX3_freeSlicesOf 29 = .ok (.ifnull 23, 3) := by decide +kernel
theorem dX3_freeSlicesOf_32 : decode cX3_freeSlicesOf 32 = .ok (.aload 6, 2) := by decide +kernel
theorem dX3_freeSlicesOf_34 : decode cX3_freeSlicesOf 34 = .ok (.invokevirtual 173, 3) := by decide +kernel
theorem dX3_freeSlicesOf_37 : decode cX3_freeSlicesOf 37 = .ok (.ifCond .eq 15, 3) := by decide +kernel
theorem dX3_freeSlicesOf_40 : decode cX3_freeSlicesOf 40 = .ok (.aload 6, 2) := by decide +kernel
theorem dX3_freeSlicesOf_42 : decode cX3_freeSlicesOf 42 = .ok (.getfield 226, 3) := by decide +kernel
theorem dX3_freeSlicesOf_45 : decode cX3_freeSlicesOf 45 = .ok (.iload_n 1, 1) := by decide +kernel
theorem dX3_freeSlicesOf_46 : decode cX3_freeSlicesOf 46 = .ok (.if_icmp .ne 6, 3) := by decide +kernel
theorem dX3_freeSlicesOf_49 : decode cX3_freeSlicesOf 49 = .ok (.iinc 2 1, 3) := by decide +kernel
theorem dX3_freeSlicesOf_52 : decode cX3_freeSlicesOf 52 = .ok (.iinc 5 1, 3) := by decide +kernel
theorem dX3_freeSlicesOf_55 : decode cX3_freeSlicesOf 55 = .ok (.goto (-41), 3) := by decide +kernel
theorem dX3_freeSlicesOf_58 : decode cX3_freeSlicesOf 58 = .ok (.iload_n 2, 1) := by decide +kernel
theorem dX3_freeSlicesOf_59 : decode cX3_freeSlicesOf 59 = .ok (.ireturn, 1) := by decide +kernel
set_option maxRecDepth 20000 in
theorem ggX3_canFillBead_X3_freeSlicesOf : GoodIn wsX3_canFillBead wsX3_freeSlicesOf := goodIn_r _ [6, 7, 8, 9, 10, 11, 12, 13, 14, 15, 16, 17, 18, 19, 20, 21, 22, 23, 24, 25, 26] (by decide +kernel) (by decide +kernel)
set_option maxRecDepth 20000 in
theorem gX3_canFillBead_X3_freeSlicesOf : GoodIn wsX3_canFillBead (wsV RX3 229 RX3 yX3_freeSlicesOf wsX3_freeSlicesOf) := goodIn_app (goodIn_of _ (by decide +kernel)) ggX3_canFillBead_X3_freeSlicesOf
theorem dX3_canFillBead_0 : decode cX3_canFillBead 0 = .ok (.iconst 0, 1) := by decide +kernel
theorem dX3_canFillBead_1 : decode cX3_canFillBead 1 = .ok (.istore_n 1, 1) := by decide +kernel
theorem dX3_canFillBead_2 : decode cX3_canFillBead 2 = .ok (.iload_n 1, 1) := by decide +kernel
theorem dX3_canFillBead_3 : decode cX3_canFillBead 3 = .ok (.aload_n 0, 1) := by decide +kernel
theorem dX3_canFillBead_4 : decode cX3_canFillBead 4 = .ok (.getfield 111, 3) := by decide +kernel
theorem dX3_canFillBead_7 : decode cX3_canFillBead 7 = .ok (.if_icmp .ge 20, 3) := by decide +kernel
theorem dX3_canFillBead_10 : decode cX3_canFillBead 10 = .ok (.aload_n 0, 1) := by decide +kernel
theorem dX3_canFillBead_11 : decode cX3_canFillBead 11 = .ok (.iload_n 1, 1) := by decide +kernel
theorem dX3_canFillBead_12 : decode cX3_canFillBead 12 = .ok (.invokevirtual 229, 3) := by decide +kernel
theorem dX3_canFillBead_15 : decode cX3_canFillBead 15 = .ok (.iconst 4, 1) := by decide +kernel
theorem dX3_canFillBead_16 : decode cX3_canFillBead 16 = .ok (.if_icmp .lt 5, 3) := by decide +kernel
theorem dX3_canFillBead_19 : decode cX3_canFillBead 19 = .ok (.iconst 1, 1) := by decide +kernel
theorem dX3_canFillBead_20 : decode cX3_canFillBead 20 = .ok (.ireturn, 1) := by decide +kernel
theorem dX3_canFillBead_21 : decode cX3_canFillBead 21 = .ok (.iinc 1 1, 3) := by decide +kernel
theorem dX3_canFillBead_24 : decode cX3_canFillBead 24 = .ok (.goto (-22), 3) := by decide +kernel
theorem dX3_canFillBead_27 : decode cX3_canFillBead 27 = .ok (.iconst 0, 1) := by decide +kernel
theorem dX3_canFillBead_28 : decode cX3_canFillBead 28 = .ok (.ireturn, 1) := by decide +kernel
theorem dX3_slicesInEyes_0 : decode cX3_slicesInEyes 0 = .ok (.iconst 0, 1) := by decide +kernel
theorem dX3_slicesInEyes_1 : decode cX3_slicesInEyes 1 = .ok (.istore_n 1, 1) := by decide +kernel
theorem dX3_slicesInEyes_2 : decode cX3_slicesInEyes 2 = .ok (.aload_n 0, 1) := by decide +kernel
theorem dX3_slicesInEyes_3 : decode cX3_slicesInEyes 3 = .ok (.getfield 21, 3) := by decide +kernel
theorem dX3_slicesInEyes_6 : decode cX3_slicesInEyes 6 = .ok (.astore_n 2, 1) := by decide +kernel
theorem dX3_slicesInEyes_7 : decode cX3_slicesInEyes 7 = .ok (.aload_n 2, 1) := by decide +kernel
theorem dX3_slicesInEyes_8 : decode cX3_slicesInEyes 8 = .ok (.arraylength, 1) := by decide +kernel
theorem dX3_slicesInEyes_9 : decode cX3_slicesInEyes 9 = .ok (.istore_n 3, 1) := by decide +kernel
theorem dX3_slicesInEyes_10 : decode cX3_slicesInEyes 10 = .ok (.iconst 0, 1) := by decide +kernel
theorem dX3_slicesInEyes_11 : decode cX3_slicesInEyes 11 = .ok (.istore 4, 2) := by decide +kernel
theorem dX3_slicesInEyes_13 : decode cX3_slicesInEyes 13 = .ok (.iload 4, 2) := by decide +kernel
theorem dX3_slicesInEyes_15 : decode cX3_slicesInEyes 15 = .ok (.iload_n 3, 1) := by decide +kernel
theorem dX3_slicesInEyes_16 : decode cX3_slicesInEyes 16 = .ok (.if_icmp .ge 23, 3) := by decide +kernel
theorem dX3_slicesInEyes_19 : decode cX3_slicesInEyes 19 = .ok (.aload_n 2, 1) := by decide +kernel
theorem dX3_slicesInEyes_20 : decode cX3_slicesInEyes 20 = .ok (.iload 4, 2) := by decide +kernel
theorem dX3_slicesInEyes_22 : decode cX3_slicesInEyes 22 = .ok (.aaload, 1) := by decide +kernel
theorem dX3_slicesInEyes_23 : decode cX3_slicesInEyes 23 = .ok (.astore 5, 2) := by decide +kernel
theorem dX3_slicesInEyes_25 : decode cX3_slicesInEyes 25 = .ok (.aload 5, 2) := by decide +kernel
theorem dX3_slicesInEyes_27 : decode cX3_slicesInEyes 27 = .ok (.ifnull 6, 3) := by decide +kernel
theorem dX3_slicesInEyes_30 : decode cX3_slicesInEyes 30 = .ok (.iinc 1 1, 3) := by decide +kernel
theorem dX3_slicesInEyes_33 : decode cX3_slicesInEyes 33 = .ok (.iinc 4 1, 3) := by decide +kernel
theorem dX3_slicesInEyes_36 : decode cX3_slicesInEyes 36 = .ok (.goto (-23), 3) := by decide +kernel
theorem dX3_slicesInEyes_39 : decode cX3_slicesInEyes 39 = .ok (.iload_n 1, 1) := by decide +kernel
theorem dX3_slicesInEyes_40 : decode cX3_slicesInEyes 40 = .ok (.ireturn, 1) := by decide +kernel
theorem dX3_filledEyes_0 : decode cX3_filledEyes 0 = .ok (.iconst 0, 1) := by decide +kernel
theorem dX3_filledEyes_1 : decode cX3_filledEyes 1 = .ok (.istore_n 2, 1) := by decide +kernel
theorem dX3_filledEyes_2 : decode cX3_filledEyes 2 = .ok (.iconst 0, 1) := by decide +kernel
theorem dX3_filledEyes_3 : decode cX3_filledEyes 3 = .ok (.istore_n 3, 1) := by decide +kernel
theorem dX3_filledEyes_4 : decode cX3_filledEyes 4 = .ok (.iload_n 3, 1) := by decide +kernel
theorem dX3_filledEyes_5 : decode cX3_filledEyes 5 = .ok (.iconst 4, 1) := by decide +kernel
theorem dX3_filledEyes_6 : decode cX3_filledEyes 6 = .ok (.if_icmp .ge 25, 3) := by decide +kernel
theorem dX3_filledEyes_9 : decode cX3_filledEyes 9 = .ok (.aload_n 0, 1) := by decide +kernel
theorem dX3_filledEyes_10 : decode cX3_filledEyes 10 = .ok (.getfield 21, 3) := by decide +kernel
theorem dX3_filledEyes_13 : decode cX3_filledEyes 13 = .ok (.iconst 4, 1) := by decide +kernel
theorem dX3_filledEyes_14 : decode cX3_filledEyes 14 = .ok (.iload_n 1, 1) := by decide +kernel
theorem dX3_filledEyes_15 : decode cX3_filledEyes 15 = .ok (.imul, 1) := by decide +kernel
theorem dX3_filledEyes_16 : decode cX3_filledEyes 16 = .ok (.iload_n 3, 1) := by decide +kernel
theorem dX3_filledEyes_17 : decode cX3_filledEyes 17 = .ok (.iadd, 1) := by decide +kernel
theorem dX3_filledEyes_18 : decode cX3_filledEyes 18 = .ok (.aaload, 1) := by decide +kernel
theorem dX3_filledEyes_19 : decode cX3_filledEyes 19 = .ok (.ifnull 6, 3) := by decide +kernel
theorem dX3_filledEyes_22 : decode cX3_filledEyes 22 = .ok (.iinc 2 1, 3) := by decide +kernel
theorem dX3_filledEyes_25 : decode cX3_filledEyes 25 = .ok (.iinc 3 1, 3) := by decide +kernel
theorem dX3_filledEyes_28 : decode cX3_filledEyes 28 = .ok (.goto (-24), 3) := by decide +kernel
theorem dX3_filledEyes_31 : decode cX3_filledEyes 31 = .ok (.iload_n 2, 1) := by decide +kernel
theorem dX3_filledEyes_32 : decode cX3_filledEyes 32 = .ok (.ireturn, 1) := by decide +kernel
set_option maxRecDepth 20000 in
theorem ggX3_eyesLike_X1_looksLike : GoodIn wsX3_eyesLike wsX1_looksLike := goodIn_r _ [6, 7, 8, 9, 10, 5, 11, 12, 13, 14, 15, 16, 17, 18, 32] (by decide +kernel) (by decide +kernel)
set_option maxRecDepth 20000 in
theorem gX3_eyesLike_X1_looksLike : GoodIn wsX3_eyesLike (wsV RX3 208 RX1 yX1_looksLike wsX1_looksLike) := goodIn_app (goodIn_of _ (by decide +kernel)) ggX3_eyesLike_X1_looksLike
theorem dX3_eyesLike_0 : decode cX3_eyesLike 0 = .ok (.iconst 0, 1) := by decide +kernel
theorem dX3_eyesLike_1 : decode cX3_eyesLike 1 = .ok (.istore_n 3, 1) := by decide +kernel
theorem dX3_eyesLike_2 : decode cX3_eyesLike 2 = .ok (.iconst 0, 1) := by decide +kernel
theorem dX3_eyesLike_3 : decode cX3_eyesLike 3 = .ok (.istore 4, 2) := by decide +kernel
theorem dX3_eyesLike_5 : decode cX3_eyesLike 5 = .ok (.iload 4, 2) := by decide +kernel
theorem dX3_eyesLike_7 : decode cX3_eyesLike 7 = .ok (.iconst 4, 1) := by decide +kernel
theorem dX3_eyesLike_8 : decode cX3_eyesLike 8 = .ok (.if_icmp .ge 55, 3) := by decide +kernel
theorem dX3_eyesLike_11 : decode cX3_eyesLike 11 = .ok (.aload_n 0, 1) := by decide +kernel
theorem dX3_eyesLike_12 : decode cX3_eyesLike 12 = .ok (.getfield 21, 3) := by decide +kernel
theorem dX3_eyesLike_15 : decode cX3_eyesLike 15 = .ok (.iconst 4, 1) := by decide +kernel
theorem dX3_eyesLike_16 : decode cX3_eyesLike 16 = .ok (.iload_n 1, 1) := by decide +kernel
theorem dX3_eyesLike_17 : decode cX3_eyesLike 17 = .ok (.imul, 1) := by decide +kernel
theorem dX3_eyesLike_18 : decode cX3_eyesLike 18 = .ok (.iload 4, 2) := by decide +kernel
theorem dX3_eyesLike_20 : decode cX3_eyesLike 20 = .ok (.iadd, 1) := by decide +kernel
theorem dX3_eyesLike_21 : decode cX3_eyesLike 21 = .ok (.aaload, 1) := by decide +kernel
theorem dX3_eyesLike_22 : decode cX3_eyesLike 22 = .ok (.astore 5, 2) := by decide +kernel
theorem dX3_eyesLike_24 : decode cX3_eyesLike 24 = .ok (.aload 5, 2) := by decide +kernel
theorem dX3_eyesLike_26 : decode cX3_eyesLike 26 = .ok (.ifnull 31, 3) := by decide +kernel
theorem dX3_eyesLike_29 : decode cX3_eyesLike 29 = .ok (.aload 5, 2) := by decide +kernel
theorem dX3_eyesLike_31 : decode cX3_eyesLike 31 = .ok (.getfield 152, 3) := by decide +kernel
theorem dX3_eyesLike_34 : decode cX3_eyesLike 34 = .ok (.aload_n 2, 1) := by decide +kernel
theorem dX3_eyesLike_35 : decode cX3_eyesLike 35 = .ok (.getfield 152, 3) := by decide +kernel
theorem dX3_eyesLike_38 : decode cX3_eyesLike 38 = .ok (.aload 5, 2) := by decide +kernel
theorem dX3_eyesLike_40 : decode cX3_eyesLike 40 = .ok (.getfield 198, 3) := by decide +kernel
theorem dX3_eyesLike_43 : decode cX3_eyesLike 43 = .ok (.aload_n 2, 1) := by decide +kernel
theorem dX3_eyesLike_44 : decode cX3_eyesLike 44 = .ok (.getfield 198, 3) := by decide +kernel
theorem dX3_eyesLike_47 : decode cX3_eyesLike 47 = .ok (.isub, 1) := by decide +kernel
theorem dX3_eyesLike_48 : decode cX3_eyesLike 48 = .ok (.invokevirtual 208, 3) := by decide +kernel
theorem dX3_eyesLike_51 : decode cX3_eyesLike 51 = .ok (.ifCond .eq 6, 3) := by decide +kernel
theorem dX3_eyesLike_54 : decode cX3_eyesLike 54 = .ok (.iinc 3 1, 3) := by decide +kernel
theorem dX3_eyesLike_57 : decode cX3_eyesLike 57 = .ok (.iinc 4 1, 3) := by decide +kernel
theorem dX3_eyesLike_60 : decode cX3_eyesLike 60 = .ok (.goto (-55), 3) := by decide +kernel
theorem dX3_eyesLike_63 : decode cX3_eyesLike 63 = .ok (.iload_n 3, 1) := by decide +kernel
theorem dX3_eyesLike_64 : decode cX3_eyesLike 64 = .ok (.ireturn, 1) := by decide +kernel
set_option maxRecDepth 20000 in
theorem ggX3_beadsOfOneLook_X3_eyesLike : GoodIn wsX3_beadsOfOneLook wsX3_eyesLike := goodIn_r _ [7, 2, 8, 9, 10, 11, 12, 13, 14, 15, 16, 17, 18, 19, 20, 21, 22, 23, 24, 25, 26, 27, 28, 29, 30, 31, 32, 33, 34, 35, 36, 37, 38] (by decide +kernel) (by decide +kernel)
set_option maxRecDepth 20000 in
theorem gX3_beadsOfOneLook_X3_eyesLike : GoodIn wsX3_beadsOfOneLook (wsV RX3 222 RX3 yX3_eyesLike wsX3_eyesLike) := goodIn_app (goodIn_of _ (by decide +kernel)) ggX3_beadsOfOneLook_X3_eyesLike
theorem dX3_beadsOfOneLook_0 : decode cX3_beadsOfOneLook 0 = .ok (.iconst 0, 1) := by decide +kernel
theorem dX3_beadsOfOneLook_1 : decode cX3_beadsOfOneLook 1 = .ok (.istore_n 1, 1) := by decide +kernel
theorem dX3_beadsOfOneLook_2 : decode cX3_beadsOfOneLook 2 = .ok (.iconst 0, 1) := by decide +kernel
theorem dX3_beadsOfOneLook_3 : decode cX3_beadsOfOneLook 3 = .ok (.istore_n 2, 1) := by decide +kernel
theorem dX3_beadsOfOneLook_4 : decode cX3_beadsOfOneLook 4 = .ok (.iload_n 2, 1) := by decide +kernel
theorem dX3_beadsOfOneLook_5 : decode cX3_beadsOfOneLook 5 = .ok (.aload_n 0, 1) := by decide +kernel
theorem dX3_beadsOfOneLook_6 : decode cX3_beadsOfOneLook 6 = .ok (.getfield 158, 3) := by decide +kernel
theorem dX3_beadsOfOneLook_9 : decode cX3_beadsOfOneLook 9 = .ok (.if_icmp .ge 35, 3) := by decide +kernel
theorem dX3_beadsOfOneLook_12 : decode cX3_beadsOfOneLook 12 = .ok (.aload_n 0, 1) := by decide +kernel
theorem dX3_beadsOfOneLook_13 : decode cX3_beadsOfOneLook 13 = .ok (.getfield 21, 3) := by decide +kernel
theorem dX3_beadsOfOneLook_16 : decode cX3_beadsOfOneLook 16 = .ok (.iconst 4, 1) := by decide +kernel
theorem dX3_beadsOfOneLook_17 : decode cX3_beadsOfOneLook 17 = .ok (.iload_n 2, 1) := by decide +kernel
theorem dX3_beadsOfOneLook_18 : decode cX3_beadsOfOneLook 18 = .ok (.imul, 1) := by decide +kernel
theorem dX3_beadsOfOneLook_19 : decode cX3_beadsOfOneLook 19 = .ok (.aaload, 1) := by decide +kernel
theorem dX3_beadsOfOneLook_20 : decode cX3_beadsOfOneLook 20 = .ok (.astore_n 3, 1) := by decide +kernel
theorem dX3_beadsOfOneLook_21 : decode cX3_beadsOfOneLook 21 = .ok (.aload_n 3, 1) := by decide +kernel
theorem dX3_beadsOfOneLook_22 : decode cX3_beadsOfOneLook 22 = .ok (.ifnull 16, 3) := by decide +kernel
theorem dX3_beadsOfOneLook_25 : decode cX3_beadsOfOneLook 25 = .ok (.aload_n 0, 1) := by decide +kernel
theorem dX3_beadsOfOneLook_26 : decode cX3_beadsOfOneLook 26 = .ok (.iload_n 2, 1) := by decide +kernel
theorem dX3_beadsOfOneLook_27 : decode cX3_beadsOfOneLook 27 = .ok (.aload_n 3, 1) := by decide +kernel
theorem dX3_beadsOfOneLook_28 : decode cX3_beadsOfOneLook 28 = .ok (.invokevirtual 222, 3) := by decide +kernel
theorem dX3_beadsOfOneLook_31 : decode cX3_beadsOfOneLook 31 = .ok (.iconst 4, 1) := by decide +kernel
theorem dX3_beadsOfOneLook_32 : decode cX3_beadsOfOneLook 32 = .ok (.if_icmp .ne 6, 3) := by decide +kernel
theorem dX3_beadsOfOneLook_35 : decode cX3_beadsOfOneLook 35 = .ok (.iinc 1 1, 3) := by decide +kernel
theorem dX3_beadsOfOneLook_38 : decode cX3_beadsOfOneLook 38 = .ok (.iinc 2 1, 3) := by decide +kernel
theorem dX3_beadsOfOneLook_41 : decode cX3_beadsOfOneLook 41 = .ok (.goto (-37), 3) := by decide +kernel
theorem dX3_beadsOfOneLook_44 : decode cX3_beadsOfOneLook 44 = .ok (.iload_n 1, 1) := by decide +kernel
theorem dX3_beadsOfOneLook_45 : decode cX3_beadsOfOneLook 45 = .ok (.ireturn, 1) := by decide +kernel
set_option maxRecDepth 20000 in
theorem ggX3_tally_X3_wholeCanes : GoodIn wsX3_tally wsX3_wholeCanes := goodIn_r _ [9, 10, 45, 46, 47, 48, 49, 50, 51, 52, 53, 54, 55, 56, 57] (by decide +kernel) (by decide +kernel)
set_option maxRecDepth 20000 in
theorem gX3_tally_X3_wholeCanes : GoodIn wsX3_tally (wsV RX3 254 RX3 yX3_wholeCanes wsX3_wholeCanes) := goodIn_app (goodIn_of _ (by decide +kernel)) ggX3_tally_X3_wholeCanes
set_option maxRecDepth 20000 in
theorem ggX3_tally_X3_slicesInEyes : GoodIn wsX3_tally wsX3_slicesInEyes := goodIn_r _ [14, 15, 45, 46, 47, 48, 49, 50, 51, 52] (by decide +kernel) (by decide +kernel)
set_option maxRecDepth 20000 in
theorem gX3_tally_X3_slicesInEyes : GoodIn wsX3_tally (wsV RX3 257 RX3 yX3_slicesInEyes wsX3_slicesInEyes) := goodIn_app (goodIn_of _ (by decide +kernel)) ggX3_tally_X3_slicesInEyes
set_option maxRecDepth 20000 in
theorem ggX3_tally_X3_beadsOfOneLook : GoodIn wsX3_tally wsX3_beadsOfOneLook := goodIn_r _ [19, 4, 15, 20, 21, 22, 8, 23, 24, 25, 26, 27, 28, 29, 30, 31, 32, 33, 34, 35, 36, 37, 38, 39, 40, 45, 46, 47, 48, 49, 50, 51, 52, 58, 59, 60, 61, 62, 63] (by decide +kernel) (by decide +kernel)
set_option maxRecDepth 20000 in
theorem gX3_tally_X3_beadsOfOneLook : GoodIn wsX3_tally (wsV RX3 260 RX3 yX3_beadsOfOneLook wsX3_beadsOfOneLook) := goodIn_app (goodIn_of _ (by decide +kernel)) ggX3_tally_X3_beadsOfOneLook
set_option maxRecDepth 20000 in
theorem ggX3_tally_X3_lengthOfAll : GoodIn wsX3_tally wsX3_lengthOfAll := goodIn_r _ [44, 10, 45, 46, 47, 48, 49, 50, 51, 52, 53, 54, 55, 56, 57] (by decide +kernel) (by decide +kernel)
set_option maxRecDepth 20000 in
theorem gX3_tally_X3_lengthOfAll : GoodIn wsX3_tally (wsV RX3 263 RX3 yX3_lengthOfAll wsX3_lengthOfAll) := goodIn_app (goodIn_of _ (by decide +kernel)) ggX3_tally_X3_lengthOfAll
theorem dX3_tally_0 : decode cX3_tally 0 = .ok (.iload_n 1, 1) := by decide +kernel
theorem dX3_tally_1 : decode cX3_tally 1 = .ok (.tableswitch 78 0 6 #[43, 48, 53, 58, 63, 68, 73], 43) := by decide +kernel
theorem dX3_tally_44 : decode cX3_tally 44 = .ok (.aload_n 0, 1) := by decide +kernel
theorem dX3_tally_45 : decode cX3_tally 45 = .ok (.getfield 251, 3) := by decide +kernel
theorem dX3_tally_48 : decode cX3_tally 48 = .ok (.ireturn, 1) := by decide +kernel
theorem dX3_tally_49 : decode cX3_tally 49 = .ok (.aload_n 0, 1) := by decide +kernel
theorem dX3_tally_50 : decode cX3_tally 50 = .ok (.getfield 28, 3) := by decide +kernel
theorem dX3_tally_53 : decode cX3_tally 53 = .ok (.ireturn, 1) := by decide +kernel
theorem dX3_tally_54 : decode cX3_tally 54 = .ok (.aload_n 0, 1) := by decide +kernel
theorem dX3_tally_55 : decode cX3_tally 55 = .ok (.invokevirtual 254, 3) := by decide +kernel
theorem dX3_tally_58 : decode cX3_tally 58 = .ok (.ireturn, 1) := by decide +kernel
theorem dX3_tally_59 : decode cX3_tally 59 = .ok (.aload_n 0, 1) := by decide +kernel
theorem dX3_tally_60 : decode cX3_tally 60 = .ok (.getfield 111, 3) := by decide +kernel
theorem dX3_tally_63 : decode cX3_tally 63 = .ok (.ireturn, 1) := by decide +kernel
theorem dX3_tally_64 : decode cX3_tally 64 = .ok (.aload_n 0, 1) := by decide +kernel
theorem dX3_tally_65 : decode cX3_tally 65 = .ok (.invokevirtual 257, 3) := by decide +kernel
theorem dX3_tally_68 : decode cX3_tally 68 = .ok (.ireturn, 1) := by decide +kernel
theorem dX3_tally_69 : decode cX3_tally 69 = .ok (.aload_n 0, 1) := by decide +kernel
theorem dX3_tally_70 : decode cX3_tally 70 = .ok (.getfield 158, 3) := by decide +kernel
theorem dX3_tally_73 : decode cX3_tally 73 = .ok (.ireturn, 1) := by decide +kernel
theorem dX3_tally_74 : decode cX3_tally 74 = .ok (.aload_n 0, 1) := by decide +kernel
theorem dX3_tally_75 : decode cX3_tally 75 = .ok (.invokevirtual 260, 3) := by decide +kernel
theorem dX3_tally_78 : decode cX3_tally 78 = .ok (.ireturn, 1) := by decide +kernel
theorem dX3_tally_79 : decode cX3_tally 79 = .ok (.aload_n 0, 1) := by decide +kernel
theorem dX3_tally_80 : decode cX3_tally 80 = .ok (.invokevirtual 263, 3) := by decide +kernel
theorem dX3_tally_83 : decode cX3_tally 83 = .ok (.ireturn, 1) := by decide +kernel
theorem dX3_digestWith_0 : decode cX3_digestWith 0 = .ok (.lload_n 0, 1) := by decide +kernel
theorem dX3_digestWith_1 : decode cX3_digestWith 1 = .ok (.ldc2_w 266, 3) := by decide +kernel
theorem dX3_digestWith_4 : decode cX3_digestWith 4 = .ok (.lmul, 1) := by decide +kernel
theorem dX3_digestWith_5 : decode cX3_digestWith 5 = .ok (.iload_n 2, 1) := by decide +kernel
theorem dX3_digestWith_6 : decode cX3_digestWith 6 = .ok (.i2l, 1) := by decide +kernel
theorem dX3_digestWith_7 : decode cX3_digestWith 7 = .ok (.ladd, 1) := by decide +kernel
theorem dX3_digestWith_8 : decode cX3_digestWith 8 = .ok (.lreturn, 1) := by decide +kernel
set_option maxRecDepth 20000 in
theorem ggX3_digestWithCanes_X0_tell : GoodIn wsX3_digestWithCanes wsX0_tell := goodIn_r _ [7, 8, 9, 10, 11, 28, 29, 30, 31, 32] (by decide +kernel) (by decide +kernel)
set_option maxRecDepth 20000 in
theorem gX3_digestWithCanes_X0_tell : GoodIn wsX3_digestWithCanes (wsV RX3 133 RX0 yX0_tell wsX0_tell) := goodIn_app (goodIn_of _ (by decide +kernel)) ggX3_digestWithCanes_X0_tell
set_option maxRecDepth 20000 in
theorem ggX3_digestWithCanes_X3_digestWith : GoodIn wsX3_digestWithCanes wsX3_digestWith := goodIn_r _ [15, 16] (by decide +kernel) (by decide +kernel)
set_option maxRecDepth 20000 in
theorem gX3_digestWithCanes_X3_digestWith : GoodIn wsX3_digestWithCanes (va_wsS RX3 234 yX3_digestWith wsX3_digestWith) := goodIn_app (goodIn_of _ (by decide +kernel)) ggX3_digestWithCanes_X3_digestWith
set_option maxRecDepth 20000 in
theorem ggX3_digestWithCanes_X3_digestWithPattern : GoodIn wsX3_digestWithCanes wsX3_digestWithPattern := goodIn_r _ [19, 12, 13, 14, 15, 16, 33] (by decide +kernel) (by decide +kernel)
set_option maxRecDepth 20000 in
theorem gX3_digestWithCanes_X3_digestWithPattern : GoodIn wsX3_digestWithCanes (va_wsS RX3 268 yX3_digestWithPattern wsX3_digestWithPattern) := goodIn_app (goodIn_of _ (by decide +kernel)) ggX3_digestWithCanes_X3_digestWithPattern
theorem dX3_digestWithCanes_0 : decode cX3_digestWithCanes 0 = .ok (.lload_n 1, 1) := by decide +kernel
theorem dX3_digestWithCanes_1 : decode cX3_digestWithCanes 1 = .ok (.lstore_n 3, 1) := by decide +kernel
theorem dX3_digestWithCanes_2 : decode cX3_digestWithCanes 2 = .ok (.iconst 0, 1) := by decide +kernel
theorem dX3_digestWithCanes_3 : decode cX3_digestWithCanes 3 = .ok (.istore 5, 2) := by decide +kernel
theorem dX3_digestWithCanes_5 : decode cX3_digestWithCanes 5 = .ok (.iload 5, 2) := by decide +kernel
theorem dX3_digestWithCanes_7 : decode cX3_digestWithCanes 7 = .ok (.bipush 8, 2) := by decide +kernel
theorem dX3_digestWithCanes_9 : decode cX3_digestWithCanes 9 = .ok (.if_icmp .ge 74, 3) := by decide +kernel
theorem dX3_digestWithCanes_12 : decode cX3_digestWithCanes 12 = .ok (.aload_n 0, 1) := by decide +kernel
theorem dX3_digestWithCanes_13 : decode cX3_digestWithCanes 13 = .ok (.getfield 11, 3) := by decide +kernel
theorem dX3_digestWithCanes_16 : decode cX3_digestWithCanes 16 = .ok (.iload 5, 2) := by decide +kernel
theorem dX3_digestWithCanes_18 : decode cX3_digestWithCanes 18 = .ok (.aaload, 1) := by decide +kernel
theorem dX3_digestWithCanes_19 : decode cX3_digestWithCanes 19 = .ok (.astore 6, 2) := by decide +kernel
theorem dX3_digestWithCanes_21 : decode cX3_digestWithCanes 21 = .ok (.aload 6, 2) := by decide +kernel
theorem dX3_digestWithCanes_23 : decode cX3_digestWithCanes 23 = .ok (.ifnull 54, 3) := by decide +kernel
theorem dX3_digestWithCanes_26 : decode cX3_digestWithCanes 26 = .ok (.iconst 0, 1) := by decide +kernel
theorem dX3_digestWithCanes_27 : decode cX3_digestWithCanes 27 = .ok (.istore 7, 2) := by decide +kernel
theorem dX3_digestWithCanes_29 : decode cX3_digestWithCanes 29 = .ok (.iload 7, 2) := by decide +kernel
theorem dX3_digestWithCanes_31 : decode cX3_digestWithCanes 31 = .ok (.iconst 5, 1) := by decide +kernel
theorem dX3_digestWithCanes_32 : decode cX3_digestWithCanes 32 = .ok (.if_icmp .ge 35, 3) := by decide +kernel
theorem dX3_digestWithCanes_35 : decode cX3_digestWithCanes 35 = .ok (.lload_n 3, 1) := by decide +kernel
theorem dX3_digestWithCanes_36 : decode cX3_digestWithCanes 36 = .ok (.aload 6, 2) := by decide +kernel
theorem dX3_digestWithCanes_38 : decode cX3_digestWithCanes 38 = .ok (.iload 7, 2) := by decide +kernel
theorem dX3_digestWithCanes_40 : decode cX3_digestWithCanes 40 = .ok (.iload 5, 2) := by decide +kernel
theorem dX3_digestWithCanes_42 : decode cX3_digestWithCanes 42 = .ok (.aload_n 0, 1) := by decide +kernel
theorem dX3_digestWithCanes_43 : decode cX3_digestWithCanes 43 = .ok (.getfield 24, 3) := by decide +kernel
theorem dX3_digestWithCanes_46 : decode cX3_digestWithCanes 46 = .ok (.if_icmp .ne 7, 3) := by decide +kernel
theorem dX3_digestWithCanes_49 : decode cX3_digestWithCanes 49 = .ok (.iconst 1, 1) := by decide +kernel
theorem dX3_digestWithCanes_50 : decode cX3_digestWithCanes 50 = .ok (.goto 4, 3) := by decide +kernel
theorem dX3_digestWithCanes_53 : decode cX3_digestWithCanes 53 = .ok (.iconst 0, 1) := by decide +kernel
theorem dX3_digestWithCanes_54 : decode cX3_digestWithCanes 54 = .ok (.invokevirtual 133, 3) := by decide +kernel
theorem dX3_digestWithCanes_57 : decode cX3_digestWithCanes 57 = .ok (.invokestatic 234, 3) := by decide +kernel
theorem dX3_digestWithCanes_60 : decode cX3_digestWithCanes 60 = .ok (.lstore_n 3, 1) := by decide +kernel
theorem dX3_digestWithCanes_61 : decode cX3_digestWithCanes 61 = .ok (.iinc 7 1, 3) := by decide +kernel
theorem dX3_digestWithCanes_64 : decode cX3_digestWithCanes 64 = .ok (.goto (-35), 3) := by decide +kernel
theorem dX3_digestWithCanes_67 : decode cX3_digestWithCanes 67 = .ok (.lload_n 3, 1) := by decide +kernel
theorem dX3_digestWithCanes_68 : decode cX3_digestWithCanes 68 = .ok (.aload 6, 2) := by decide +kernel
theorem dX3_digestWithCanes_70 : decode cX3_digestWithCanes 70 = .ok (.getfield 71, 3) := by decide +kernel
theorem dX3_digestWithCanes_73 : decode cX3_digestWithCanes 73 = .ok (.invokestatic 268, 3) := by decide +kernel
theorem dX3_digestWithCanes_76 : decode cX3_digestWithCanes 76 = .ok (.lstore_n 3, 1) := by decide +kernel
theorem dX3_digestWithCanes_77 : decode cX3_digestWithCanes 77 = .ok (.iinc 5 1, 3) := by decide +kernel
theorem dX3_digestWithCanes_80 : decode cX3_digestWithCanes 80 = .ok (.goto (-75), 3) := by decide +kernel
theorem dX3_digestWithCanes_83 : decode cX3_digestWithCanes 83 = .ok (.lload_n 3, 1) := by decide +kernel
theorem dX3_digestWithCanes_84 : decode cX3_digestWithCanes 84 = .ok (.lreturn, 1) := by decide +kernel
set_option maxRecDepth 20000 in
theorem ggX3_digestWithSlices_X3_digestWithPattern : GoodIn wsX3_digestWithSlices wsX3_digestWithPattern := goodIn_r _ [5, 6, 7, 4, 8, 9, 23] (by decide +kernel) (by decide +kernel)
set_option maxRecDepth 20000 in
theorem gX3_digestWithSlices_X3_digestWithPattern : GoodIn wsX3_digestWithSlices (va_wsS RX3 268 yX3_digestWithPattern wsX3_digestWithPattern) := goodIn_app (goodIn_of _ (by decide +kernel)) ggX3_digestWithSlices_X3_digestWithPattern
set_option maxRecDepth 20000 in
theorem ggX3_digestWithSlices_X3_digestWith : GoodIn wsX3_digestWithSlices wsX3_digestWith := goodIn_r _ [8, 9] (by decide +kernel) (by decide +kernel)
set_option maxRecDepth 20000 in
theorem gX3_digestWithSlices_X3_digestWith : GoodIn wsX3_digestWithSlices (va_wsS RX3 234 yX3_digestWith wsX3_digestWith) := goodIn_app (goodIn_of _ (by decide +kernel)) ggX3_digestWithSlices_X3_digestWith
theorem dX3_digestWithSlices_0 : decode cX3_digestWithSlices 0 = .ok (.lload_n 1, 1) := by decide +kernel
theorem dX3_digestWithSlices_1 : decode cX3_digestWithSlices 1 = .ok (.lstore_n 3, 1) := by decide +kernel
theorem dX3_digestWithSlices_2 : decode cX3_digestWithSlices 2 = .ok (.aload_n 0, 1) := by decide +kernel
theorem dX3_digestWithSlices_3 : decode cX3_digestWithSlices 3 = .ok (.getfield 17, 3) := by decide +kernel
theorem dX3_digestWithSlices_6 : decode cX3_digestWithSlices 6 = .ok (.astore 5, 2) := by decide +kernel
theorem dX3_digestWithSlices_8 : decode cX3_digestWithSlices 8 = .ok (.aload 5, 2) := by decide +kernel
theorem dX3_digestWithSlices_10 : decode cX3_digestWithSlices 10 = .ok (.arraylength, 1) := by decide +kernel
theorem dX3_digestWithSlices_11 : decode cX3_digestWithSlices 11 = .ok (.istore 6, 2) := by decide +kernel
theorem dX3_digestWithSlices_13 : decode cX3_digestWithSlices 13 = .ok (.iconst 0, 1) := by decide +kernel
theorem dX3_digestWithSlices_14 : decode cX3_digestWithSlices 14 = .ok (.istore 7, 2) := by decide +kernel
theorem dX3_digestWithSlices_16 : decode cX3_digestWithSlices 16 = .ok (.iload 7, 2) := by decide +kernel
theorem dX3_digestWithSlices_18 : decode cX3_digestWithSlices 18 = .ok (.iload 6, 2) := by decide +kernel
theorem dX3_digestWithSlices_20 : decode cX3_digestWithSlices 20 = .ok (.if_icmp .ge 41, 3) := by decide +kernel
theorem dX3_digestWithSlices_23 : decode cX3_digestWithSlices 23 = .ok (.aload 5, 2) := by decide +kernel
theorem dX3_digestWithSlices_25 : decode cX3_digestWithSlices 25 = .ok (.iload 7, 2) := by decide +kernel
theorem dX3_digestWithSlices_27 : decode cX3_digestWithSlices 27 = .ok (.aaload, 1) := by decide +kernel
theorem dX3_digestWithSlices_28 : decode cX3_digestWithSlices 28 = .ok (.astore 8, 2) := by decide +kernel
theorem dX3_digestWithSlices_30 : decode cX3_digestWithSlices 30 = .ok (.aload 8, 2) := by decide +kernel
theorem dX3_digestWithSlices_32 : decode cX3_digestWithSlices 32 = .ok (.ifnull 23, 3) := by decide +kernel
theorem dX3_digestWithSlices_35 : decode cX3_digestWithSlices 35 = .ok (.lload_n 3, 1) := by decide +kernel
theorem dX3_digestWithSlices_36 : decode cX3_digestWithSlices 36 = .ok (.aload 8, 2) := by decide +kernel
theorem dX3_digestWithSlices_38 : decode cX3_digestWithSlices 38 = .ok (.getfield 152, 3) := by decide +kernel
theorem dX3_digestWithSlices_41 : decode cX3_digestWithSlices 41 = .ok (.invokestatic 268, 3) := by decide +kernel
theorem dX3_digestWithSlices_44 : decode cX3_digestWithSlices 44 = .ok (.lstore_n 3, 1) := by decide +kernel
theorem dX3_digestWithSlices_45 : decode cX3_digestWithSlices 45 = .ok (.lload_n 3, 1) := by decide +kernel
theorem dX3_digestWithSlices_46 : decode cX3_digestWithSlices 46 = .ok (.aload 8, 2) := by decide +kernel
theorem dX3_digestWithSlices_48 : decode cX3_digestWithSlices 48 = .ok (.getfield 155, 3) := by decide +kernel
theorem dX3_digestWithSlices_51 : decode cX3_digestWithSlices 51 = .ok (.invokestatic 234, 3) := by decide +kernel
theorem dX3_digestWithSlices_54 : decode cX3_digestWithSlices 54 = .ok (.lstore_n 3, 1) := by decide +kernel
theorem dX3_digestWithSlices_55 : decode cX3_digestWithSlices 55 = .ok (.iinc 7 1, 3) := by decide +kernel
theorem dX3_digestWithSlices_58 : decode cX3_digestWithSlices 58 = .ok (.goto (-42), 3) := by decide +kernel
theorem dX3_digestWithSlices_61 : decode cX3_digestWithSlices 61 = .ok (.lload_n 3, 1) := by decide +kernel
theorem dX3_digestWithSlices_62 : decode cX3_digestWithSlices 62 = .ok (.lreturn, 1) := by decide +kernel
set_option maxRecDepth 20000 in
theorem ggX3_digestWithEyes_X3_digestWith : GoodIn wsX3_digestWithEyes wsX3_digestWith := goodIn_r _ [6, 7] (by decide +kernel) (by decide +kernel)
set_option maxRecDepth 20000 in
theorem gX3_digestWithEyes_X3_digestWith : GoodIn wsX3_digestWithEyes (va_wsS RX3 234 yX3_digestWith wsX3_digestWith) := goodIn_app (goodIn_of _ (by decide +kernel)) ggX3_digestWithEyes_X3_digestWith
theorem dX3_digestWithEyes_0 : decode cX3_digestWithEyes 0 = .ok (.lload_n 1, 1) := by decide +kernel
theorem dX3_digestWithEyes_1 : decode cX3_digestWithEyes 1 = .ok (.lstore_n 3, 1) := by decide +kernel
theorem dX3_digestWithEyes_2 : decode cX3_digestWithEyes 2 = .ok (.iconst 0, 1) := by decide +kernel
theorem dX3_digestWithEyes_3 : decode cX3_digestWithEyes 3 = .ok (.istore 5, 2) := by decide +kernel
theorem dX3_digestWithEyes_5 : decode cX3_digestWithEyes 5 = .ok (.iload 5, 2) := by decide +kernel
theorem dX3_digestWithEyes_7 : decode cX3_digestWithEyes 7 = .ok (.iconst 4, 1) := by decide +kernel
theorem dX3_digestWithEyes_8 : decode cX3_digestWithEyes 8 = .ok (.aload_n 0, 1) := by decide +kernel
theorem dX3_digestWithEyes_9 : decode cX3_digestWithEyes 9 = .ok (.getfield 158, 3) := by decide +kernel
theorem dX3_digestWithEyes_12 : decode cX3_digestWithEyes 12 = .ok (.imul, 1) := by decide +kernel
theorem dX3_digestWithEyes_13 : decode cX3_digestWithEyes 13 = .ok (.if_icmp .ge 56, 3) := by decide +kernel
theorem dX3_digestWithEyes_16 : decode cX3_digestWithEyes 16 = .ok (.aload_n 0, 1) := by decide +kernel
theorem dX3_digestWithEyes_17 : decode cX3_digestWithEyes 17 = .ok (.getfield 21, 3) := by decide +kernel
theorem dX3_digestWithEyes_20 : decode cX3_digestWithEyes 20 = .ok (.iload 5, 2) := by decide +kernel
theorem dX3_digestWithEyes_22 : decode cX3_digestWithEyes 22 = .ok (.aaload, 1) := by decide +kernel
theorem dX3_digestWithEyes_23 : decode cX3_digestWithEyes 23 = .ok (.astore 6, 2) := by decide +kernel
theorem dX3_digestWithEyes_25 : decode cX3_digestWithEyes 25 = .ok (.lload_n 3, 1) := by decide +kernel
theorem dX3_digestWithEyes_26 : decode cX3_digestWithEyes 26 = .ok (.aload 6, 2) := by decide +kernel
theorem dX3_digestWithEyes_28 : decode cX3_digestWithEyes 28 = .ok (.ifnonnull 7, 3) := by decide +kernel
theorem dX3_digestWithEyes_31 : decode cX3_digestWithEyes 31 = .ok (.iconst (-1), 1) := by decide +kernel
theorem dX3_digestWithEyes_32 : decode cX3_digestWithEyes 32 = .ok (.goto 8, 3) := by decide +kernel
theorem dX3_digestWithEyes_35 : decode cX3_digestWithEyes 35 = .ok (.aload 6, 2) := by decide +kernel
theorem dX3_digestWithEyes_37 : decode cX3_digestWithEyes 37 = .ok (.getfield 193, 3) := by decide +kernel
theorem dX3_digestWithEyes_40 : decode cX3_digestWithEyes 40 = .ok (.invokestatic 234, 3) := by decide +kernel
theorem dX3_digestWithEyes_43 : decode cX3_digestWithEyes 43 = .ok (.lstore_n 3, 1) := by decide +kernel
theorem dX3_digestWithEyes_44 : decode cX3_digestWithEyes 44 = .ok (.lload_n 3, 1) := by decide +kernel
theorem dX3_digestWithEyes_45 : decode cX3_digestWithEyes 45 = .ok (.aload 6, 2) := by decide +kernel
theorem dX3_digestWithEyes_47 : decode cX3_digestWithEyes 47 = .ok (.ifnonnull 7, 3) := by decide +kernel
theorem dX3_digestWithEyes_50 : decode cX3_digestWithEyes 50 = .ok (.iconst 0, 1) := by decide +kernel
theorem dX3_digestWithEyes_51 : decode cX3_digestWithEyes 51 = .ok (.goto 8, 3) := by decide +kernel
theorem dX3_digestWithEyes_54 : decode cX3_digestWithEyes 54 = .ok (.aload 6, 2) := by decide +kernel
theorem dX3_digestWithEyes_56 : decode cX3_digestWithEyes 56 = .ok (.getfield 198, 3) := by decide +kernel
theorem dX3_digestWithEyes_59 : decode cX3_digestWithEyes 59 = .ok (.invokestatic 234, 3) := by decide +kernel
theorem dX3_digestWithEyes_62 : decode cX3_digestWithEyes 62 = .ok (.lstore_n 3, 1) := by decide +kernel
theorem dX3_digestWithEyes_63 : decode cX3_digestWithEyes 63 = .ok (.iinc 5 1, 3) := by decide +kernel
theorem dX3_digestWithEyes_66 : decode cX3_digestWithEyes 66 = .ok (.goto (-61), 3) := by decide +kernel
theorem dX3_digestWithEyes_69 : decode cX3_digestWithEyes 69 = .ok (.lload_n 3, 1) := by decide +kernel
theorem dX3_digestWithEyes_70 : decode cX3_digestWithEyes 70 = .ok (.lreturn, 1) := by decide +kernel
set_option maxRecDepth 20000 in
theorem ggX3_digestWithPattern_X3_digestWith : GoodIn wsX3_digestWithPattern wsX3_digestWith := goodIn_r _ [4, 5] (by decide +kernel) (by decide +kernel)
set_option maxRecDepth 20000 in
theorem gX3_digestWithPattern_X3_digestWith : GoodIn wsX3_digestWithPattern (va_wsS RX3 234 yX3_digestWith wsX3_digestWith) := goodIn_app (goodIn_of _ (by decide +kernel)) ggX3_digestWithPattern_X3_digestWith
theorem dX3_digestWithPattern_0 : decode cX3_digestWithPattern 0 = .ok (.lload_n 0, 1) := by decide +kernel
theorem dX3_digestWithPattern_1 : decode cX3_digestWithPattern 1 = .ok (.lstore_n 3, 1) := by decide +kernel
theorem dX3_digestWithPattern_2 : decode cX3_digestWithPattern 2 = .ok (.aload_n 2, 1) := by decide +kernel
theorem dX3_digestWithPattern_3 : decode cX3_digestWithPattern 3 = .ok (.getfield 272, 3) := by decide +kernel
theorem dX3_digestWithPattern_6 : decode cX3_digestWithPattern 6 = .ok (.astore 5, 2) := by decide +kernel
theorem dX3_digestWithPattern_8 : decode cX3_digestWithPattern 8 = .ok (.aload 5, 2) := by decide +kernel
theorem dX3_digestWithPattern_10 : decode cX3_digestWithPattern 10 = .ok (.arraylength, 1) := by decide +kernel
theorem dX3_digestWithPattern_11 : decode cX3_digestWithPattern 11 = .ok (.istore 6, 2) := by decide +kernel
theorem dX3_digestWithPattern_13 : decode cX3_digestWithPattern 13 = .ok (.iconst 0, 1) := by decide +kernel
theorem dX3_digestWithPattern_14 : decode cX3_digestWithPattern 14 = .ok (.istore 7, 2) := by decide +kernel
theorem dX3_digestWithPattern_16 : decode cX3_digestWithPattern 16 = .ok (.iload 7, 2) := by decide +kernel
theorem dX3_digestWithPattern_18 : decode cX3_digestWithPattern 18 = .ok (.iload 6, 2) := by decide +kernel
theorem dX3_digestWithPattern_20 : decode cX3_digestWithPattern 20 = .ok (.if_icmp .ge 23, 3) := by decide +kernel
theorem dX3_digestWithPattern_23 : decode cX3_digestWithPattern 23 = .ok (.aload 5, 2) := by decide +kernel
theorem dX3_digestWithPattern_25 : decode cX3_digestWithPattern 25 = .ok (.iload 7, 2) := by decide +kernel
theorem dX3_digestWithPattern_27 : decode cX3_digestWithPattern 27 = .ok (.iaload, 1) := by decide +kernel
theorem dX3_digestWithPattern_28 : decode cX3_digestWithPattern 28 = .ok (.istore 8, 2) := by decide +kernel
theorem dX3_digestWithPattern_30 : decode cX3_digestWithPattern 30 = .ok (.lload_n 3, 1) := by decide +kernel
theorem dX3_digestWithPattern_31 : decode cX3_digestWithPattern 31 = .ok (.iload 8, 2) := by decide +kernel
theorem dX3_digestWithPattern_33 : decode cX3_digestWithPattern 33 = .ok (.invokestatic 234, 3) := by decide +kernel
theorem dX3_digestWithPattern_36 : decode cX3_digestWithPattern 36 = .ok (.lstore_n 3, 1) := by decide +kernel
theorem dX3_digestWithPattern_37 : decode cX3_digestWithPattern 37 = .ok (.iinc 7 1, 3) := by decide +kernel
theorem dX3_digestWithPattern_40 : decode cX3_digestWithPattern 40 = .ok (.goto (-24), 3) := by decide +kernel
theorem dX3_digestWithPattern_43 : decode cX3_digestWithPattern 43 = .ok (.lload_n 3, 1) := by decide +kernel
theorem dX3_digestWithPattern_44 : decode cX3_digestWithPattern 44 = .ok (.lreturn, 1) := by decide +kernel
