theorem dX3_digestWithPattern_37 : decode cX3_digestWithPattern 37 = .ok (.iinc 7 1, 3) := by decide +kernel
theorem dX3_digestWithPattern_40 : decode cX3_digestWithPattern 40 = .ok (.goto (-24), 3) := by decide +kernel
theorem dX3_digestWithPattern_43 : decode cX3_digestWithPattern 43 = .ok (.lload_n 3, 1) := by decide +kernel
theorem dX3_digestWithPattern_44 : decode cX3_digestWithPattern 44 = .ok (.lreturn, 1) := by decide +kernel
theorem dX4_init_0 : decode cX4_init 0 = .ok (.aload_n 0, 1) := by decide +kernel
theorem dX4_init_1 : decode cX4_init 1 = .ok (.invokespecial 3, 3) := by decide +kernel
theorem dX4_init_4 : decode cX4_init 4 = .ok (.aload_n 0, 1) := by decide +kernel
theorem dX4_init_5 : decode cX4_init 5 = .ok (.iconst (-1), 1) := by decide +kernel
theorem dX4_init_6 : decode cX4_init 6 = .ok (.putfield 9, 3) := by decide +kernel
theorem dX4_init_9 : decode cX4_init 9 = .ok (.aload_n 0, 1) := by decide +kernel
theorem dX4_init_10 : decode cX4_init 10 = .ok (.bipush 8, 2) := by decide +kernel
theorem dX4_init_12 : decode cX4_init 12 = .ok (.newarray .int, 2) := by decide +kernel
theorem dX4_init_14 : decode cX4_init 14 = .ok (.putfield 13, 3) := by decide +kernel
theorem dX4_init_17 : decode cX4_init 17 = .ok (.aload_n 0, 1) := by decide +kernel
theorem dX4_init_18 : decode cX4_init 18 = .ok (.bipush 8, 2) := by decide +kernel
theorem dX4_init_20 : decode cX4_init 20 = .ok (.newarray .int, 2) := by decide +kernel
theorem dX4_init_22 : decode cX4_init 22 = .ok (.putfield 17, 3) := by decide +kernel
theorem dX4_init_25 : decode cX4_init 25 = .ok (.aload_n 0, 1) := by decide +kernel
theorem dX4_init_26 : decode cX4_init 26 = .ok (.bipush 8, 2) := by decide +kernel
theorem dX4_init_28 : decode cX4_init 28 = .ok (.newarray .int, 2) := by decide +kernel
theorem dX4_init_30 : decode cX4_init 30 = .ok (.putfield 20, 3) := by decide +kernel
theorem dX4_init_33 : decode cX4_init 33 = .ok (.aload_n 0, 1) := by decide +kernel
theorem dX4_init_34 : decode cX4_init 34 = .ok (.bipush 8, 2) := by decide +kernel
theorem dX4_init_36 : decode cX4_init 36 = .ok (.newarray .int, 2) := by decide +kernel
theorem dX4_init_38 : decode cX4_init 38 = .ok (.putfield 23, 3) := by decide +kernel
theorem dX4_init_41 : decode cX4_init 41 = .ok (.aload_n 0, 1) := by decide +kernel
theorem dX4_init_42 : decode cX4_init 42 = .ok (.bipush 24, 2) := by decide +kernel
theorem dX4_init_44 : decode cX4_init 44 = .ok (.newarray .int, 2) := by decide +kernel
theorem dX4_init_46 : decode cX4_init 46 = .ok (.putfield 26, 3) := by decide +kernel
theorem dX4_init_49 : decode cX4_init 49 = .ok (.aload_n 0, 1) := by decide +kernel
theorem dX4_init_50 : decode cX4_init 50 = .ok (.sipush 180, 3) := by decide +kernel
theorem dX4_init_53 : decode cX4_init 53 = .ok (.newarray .int, 2) := by decide +kernel
theorem dX4_init_55 : decode cX4_init 55 = .ok (.putfield 29, 3) := by decide +kernel
theorem dX4_init_58 : decode cX4_init 58 = .ok (.aload_n 0, 1) := by decide +kernel
theorem dX4_init_59 : decode cX4_init 59 = .ok (.bipush 60, 2) := by decide +kernel
theorem dX4_init_61 : decode cX4_init 61 = .ok (.newarray .int, 2) := by decide +kernel
theorem dX4_init_63 : decode cX4_init 63 = .ok (.putfield 32, 3) := by decide +kernel
theorem dX4_init_66 : decode cX4_init 66 = .ok (.aload_n 0, 1) := by decide +kernel
theorem dX4_init_67 : decode cX4_init 67 = .ok (.bipush 24, 2) := by decide +kernel
theorem dX4_init_69 : decode cX4_init 69 = .ok (.newarray .int, 2) := by decide +kernel
theorem dX4_init_71 : decode cX4_init 71 = .ok (.putfield 35, 3) := by decide +kernel
theorem dX4_init_74 : decode cX4_init 74 = .ok (.aload_n 0, 1) := by decide +kernel
theorem dX4_init_75 : decode cX4_init 75 = .ok (.bipush 24, 2) := by decide +kernel
theorem dX4_init_77 : decode cX4_init 77 = .ok (.newarray .int, 2) := by decide +kernel
theorem dX4_init_79 : decode cX4_init 79 = .ok (.putfield 38, 3) := by decide +kernel
theorem dX4_init_82 : decode cX4_init 82 = .ok (.return_, 1) := by decide +kernel
theorem dX4_thrown_0 : decode cX4_thrown 0 = .ok (.aload_n 0, 1) := by decide +kernel
theorem dX4_thrown_1 : decode cX4_thrown 1 = .ok (.getfield 41, 3) := by decide +kernel
theorem dX4_thrown_4 : decode cX4_thrown 4 = .ok (.ireturn, 1) := by decide +kernel
theorem dX4_no_0 : decode cX4_no 0 = .ok (.aload_n 0, 1) := by decide +kernel
theorem dX4_no_1 : decode cX4_no 1 = .ok (.iload_n 1, 1) := by decide +kernel
theorem dX4_no_2 : decode cX4_no 2 = .ok (.putfield 41, 3) := by decide +kernel
theorem dX4_no_5 : decode cX4_no 5 = .ok (.iconst 0, 1) := by decide +kernel
theorem dX4_no_6 : decode cX4_no 6 = .ok (.ireturn, 1) := by decide +kernel
theorem dX4_isIn_0 : decode cX4_isIn 0 = .ok (.iload_n 0, 1) := by decide +kernel
theorem dX4_isIn_1 : decode cX4_isIn 1 = .ok (.iload_n 1, 1) := by decide +kernel
theorem dX4_isIn_2 : decode cX4_isIn 2 = .ok (.if_icmp .lt 12, 3) := by decide +kernel
theorem dX4_isIn_5 : decode cX4_isIn 5 = .ok (.iload_n 0, 1) := by decide +kernel
theorem dX4_isIn_6 : decode cX4_isIn 6 = .ok (.iload_n 2, 1) := by decide +kernel
theorem dX4_isIn_7 : decode cX4_isIn 7 = .ok (.if_icmp .gt 7, 3) := by decide +kernel
theorem dX4_isIn_10 : decode cX4_isIn 10 = .ok (.iconst 1, 1) := by decide +kernel
theorem dX4_isIn_11 : decode cX4_isIn 11 = .ok (.goto 4, 3) := by decide +kernel
theorem dX4_isIn_14 : decode cX4_isIn 14 = .ok (.iconst 0, 1) := by decide +kernel
theorem dX4_isIn_15 : decode cX4_isIn 15 = .ok (.ireturn, 1) := by decide +kernel
set_option maxRecDepth 20000 in
theorem ggX4_isCane_X4_isIn : GoodIn wsX4_isCane wsX4_isIn := goodIn_r _ [5] (by decide +kernel) (by decide +kernel)
set_option maxRecDepth 20000 in
theorem gX4_isCane_X4_isIn : GoodIn wsX4_isCane (va_wsS RX4 47 yX4_isIn wsX4_isIn) := goodIn_app (goodIn_of _ (by decide +kernel)) ggX4_isCane_X4_isIn
theorem dX4_isCane_0 : decode cX4_isCane 0 = .ok (.iload_n 1, 1) := by decide +kernel
theorem dX4_isCane_1 : decode cX4_isCane 1 = .ok (.iconst 0, 1) := by decide +kernel
theorem dX4_isCane_2 : decode cX4_isCane 2 = .ok (.aload_n 0, 1) := by decide +kernel
theorem dX4_isCane_3 : decode cX4_isCane 3 = .ok (.getfield 44, 3) := by decide +kernel
theorem dX4_isCane_6 : decode cX4_isCane 6 = .ok (.iconst 1, 1) := by decide +kernel
theorem dX4_isCane_7 : decode cX4_isCane 7 = .ok (.isub, 1) := by decide +kernel
theorem dX4_isCane_8 : decode cX4_isCane 8 = .ok (.invokestatic 47, 3) := by decide +kernel
theorem dX4_isCane_11 : decode cX4_isCane 11 = .ok (.ireturn, 1) := by decide +kernel
set_option maxRecDepth 20000 in
theorem ggX4_isSlice_X4_isIn : GoodIn wsX4_isSlice wsX4_isIn := goodIn_r _ [5] (by decide +kernel) (by decide +kernel)
set_option maxRecDepth 20000 in
theorem gX4_isSlice_X4_isIn : GoodIn wsX4_isSlice (va_wsS RX4 47 yX4_isIn wsX4_isIn) := goodIn_app (goodIn_of _ (by decide +kernel)) ggX4_isSlice_X4_isIn
theorem dX4_isSlice_0 : decode cX4_isSlice 0 = .ok (.iload_n 1, 1) := by decide +kernel
theorem dX4_isSlice_1 : decode cX4_isSlice 1 = .ok (.iconst 0, 1) := by decide +kernel
theorem dX4_isSlice_2 : decode cX4_isSlice 2 = .ok (.aload_n 0, 1) := by decide +kernel
theorem dX4_isSlice_3 : decode cX4_isSlice 3 = .ok (.getfield 51, 3) := by decide +kernel
theorem dX4_isSlice_6 : decode cX4_isSlice 6 = .ok (.iconst 1, 1) := by decide +kernel
theorem dX4_isSlice_7 : decode cX4_isSlice 7 = .ok (.isub, 1) := by decide +kernel
theorem dX4_isSlice_8 : decode cX4_isSlice 8 = .ok (.invokestatic 47, 3) := by decide +kernel
theorem dX4_isSlice_11 : decode cX4_isSlice 11 = .ok (.ireturn, 1) := by decide +kernel
set_option maxRecDepth 20000 in
theorem ggX4_isEye_X4_isIn : GoodIn wsX4_isEye wsX4_isIn := goodIn_r _ [5] (by decide +kernel) (by decide +kernel)
set_option maxRecDepth 20000 in
theorem gX4_isEye_X4_isIn : GoodIn wsX4_isEye (va_wsS RX4 47 yX4_isIn wsX4_isIn) := goodIn_app (goodIn_of _ (by decide +kernel)) ggX4_isEye_X4_isIn
theorem dX4_isEye_0 : decode cX4_isEye 0 = .ok (.iload_n 1, 1) := by decide +kernel
theorem dX4_isEye_1 : decode cX4_isEye 1 = .ok (.iconst 0, 1) := by decide +kernel
theorem dX4_isEye_2 : decode cX4_isEye 2 = .ok (.aload_n 0, 1) := by decide +kernel
theorem dX4_isEye_3 : decode cX4_isEye 3 = .ok (.getfield 54, 3) := by decide +kernel
theorem dX4_isEye_6 : decode cX4_isEye 6 = .ok (.iconst 1, 1) := by decide +kernel
theorem dX4_isEye_7 : decode cX4_isEye 7 = .ok (.isub, 1) := by decide +kernel
theorem dX4_isEye_8 : decode cX4_isEye 8 = .ok (.invokestatic 47, 3) := by decide +kernel
theorem dX4_isEye_11 : decode cX4_isEye 11 = .ok (.ifCond .eq 16, 3) := by decide +kernel
theorem dX4_isEye_14 : decode cX4_isEye 14 = .ok (.iload_n 2, 1) := by decide +kernel
theorem dX4_isEye_15 : decode cX4_isEye 15 = .ok (.iconst 0, 1) := by decide +kernel
theorem dX4_isEye_16 : decode cX4_isEye 16 = .ok (.iconst 3, 1) := by decide +kernel
theorem dX4_isEye_17 : decode cX4_isEye 17 = .ok (.invokestatic 47, 3) := by decide +kernel
theorem dX4_isEye_20 : decode cX4_isEye 20 = .ok (.ifCond .eq 7, 3) := by decide +kernel
theorem dX4_isEye_23 : decode cX4_isEye 23 = .ok (.iconst 1, 1) := by decide +kernel
theorem dX4_isEye_24 : decode cX4_isEye 24 = .ok (.goto 4, 3) := by decide +kernel
theorem dX4_isEye_27 : decode cX4_isEye 27 = .ok (.iconst 0, 1) := by decide +kernel
theorem dX4_isEye_28 : decode cX4_isEye 28 = .ok (.ireturn, 1) := by decide +kernel
set_option maxRecDepth 20000 in
theorem ggX4_isSpot_X4_isIn : GoodIn wsX4_isSpot wsX4_isIn := goodIn_r _ [4] (by decide +kernel) (by decide +kernel)
set_option maxRecDepth 20000 in
theorem gX4_isSpot_X4_isIn : GoodIn wsX4_isSpot (va_wsS RX4 47 yX4_isIn wsX4_isIn) := goodIn_app (goodIn_of _ (by decide +kernel)) ggX4_isSpot_X4_isIn
theorem dX4_isSpot_0 : decode cX4_isSpot 0 = .ok (.iload_n 0, 1) := by decide +kernel
theorem dX4_isSpot_1 : decode cX4_isSpot 1 = .ok (.iconst 0, 1) := by decide +kernel
theorem dX4_isSpot_2 : decode cX4_isSpot 2 = .ok (.iconst 2, 1) := by decide +kernel
theorem dX4_isSpot_3 : decode cX4_isSpot 3 = .ok (.invokestatic 47, 3) := by decide +kernel
theorem dX4_isSpot_6 : decode cX4_isSpot 6 = .ok (.ifCond .eq 17, 3) := by decide +kernel
theorem dX4_isSpot_9 : decode cX4_isSpot 9 = .ok (.iload_n 1, 1) := by decide +kernel
theorem dX4_isSpot_10 : decode cX4_isSpot 10 = .ok (.iconst 0, 1) := by decide +kernel
theorem dX4_isSpot_11 : decode cX4_isSpot 11 = .ok (.bipush 7, 2) := by decide +kernel
theorem dX4_isSpot_13 : decode cX4_isSpot 13 = .ok (.invokestatic 47, 3) := by decide +kernel
theorem dX4_isSpot_16 : decode cX4_isSpot 16 = .ok (.ifCond .eq 7, 3) := by decide +kernel
theorem dX4_isSpot_19 : decode cX4_isSpot 19 = .ok (.iconst 1, 1) := by decide +kernel
theorem dX4_isSpot_20 : decode cX4_isSpot 20 = .ok (.goto 4, 3) := by decide +kernel
theorem dX4_isSpot_23 : decode cX4_isSpot 23 = .ok (.iconst 0, 1) := by decide +kernel
theorem dX4_isSpot_24 : decode cX4_isSpot 24 = .ok (.ireturn, 1) := by decide +kernel
set_option maxRecDepth 20000 in
theorem ggX4_rotated_J9_floorMod_7cf53 : GoodIn wsX4_rotated wsJ9_floorMod_7cf53 := goodIn_r _ [5] (by decide +kernel) (by decide +kernel)
set_option maxRecDepth 20000 in
theorem gX4_rotated_J9_floorMod_7cf53 : GoodIn wsX4_rotated (va_wsS RX4 57 yJ9_floorMod_7cf53 wsJ9_floorMod_7cf53) := goodIn_app (goodIn_of _ (by decide +kernel)) ggX4_rotated_J9_floorMod_7cf53
theorem dX4_rotated_0 : decode cX4_rotated 0 = .ok (.iconst 3, 1) := by decide +kernel
theorem dX4_rotated_1 : decode cX4_rotated 1 = .ok (.iload_n 1, 1) := by decide +kernel
theorem dX4_rotated_2 : decode cX4_rotated 2 = .ok (.bipush 8, 2) := by decide +kernel
theorem dX4_rotated_4 : decode cX4_rotated 4 = .ok (.invokestatic 57, 3) := by decide +kernel
theorem dX4_rotated_7 : decode cX4_rotated 7 = .ok (.imul, 1) := by decide +kernel
theorem dX4_rotated_8 : decode cX4_rotated 8 = .ok (.istore_n 2, 1) := by decide +kernel
theorem dX4_rotated_9 : decode cX4_rotated 9 = .ok (.iload_n 0, 1) := by decide +kernel
theorem dX4_rotated_10 : decode cX4_rotated 10 = .ok (.iload_n 2, 1) := by decide +kernel
theorem dX4_rotated_11 : decode cX4_rotated 11 = .ok (.ishl, 1) := by decide +kernel
theorem dX4_rotated_12 : decode cX4_rotated 12 = .ok (.iload_n 0, 1) := by decide +kernel
theorem dX4_rotated_13 : decode cX4_rotated 13 = .ok (.bipush 24, 2) := by decide +kernel
theorem dX4_rotated_15 : decode cX4_rotated 15 = .ok (.iload_n 2, 1) := by decide +kernel
theorem dX4_rotated_16 : decode cX4_rotated 16 = .ok (.isub, 1) := by decide +kernel
theorem dX4_rotated_17 : decode cX4_rotated 17 = .ok (.iushr, 1) := by decide +kernel
theorem dX4_rotated_18 : decode cX4_rotated 18 = .ok (.ior, 1) := by decide +kernel
theorem dX4_rotated_19 : decode cX4_rotated 19 = .ok (.ldc 63, 2) := by decide +kernel
theorem dX4_rotated_21 : decode cX4_rotated 21 = .ok (.iand, 1) := by decide +kernel
theorem dX4_rotated_22 : decode cX4_rotated 22 = .ok (.ireturn, 1) := by decide +kernel
theorem dX4_colourOf_0 : decode cX4_colourOf 0 = .ok (.iload_n 0, 1) := by decide +kernel
theorem dX4_colourOf_1 : decode cX4_colourOf 1 = .ok (.iconst 3, 1) := by decide +kernel
theorem dX4_colourOf_2 : decode cX4_colourOf 2 = .ok (.iload_n 1, 1) := by decide +kernel
theorem dX4_colourOf_3 : decode cX4_colourOf 3 = .ok (.imul, 1) := by decide +kernel
theorem dX4_colourOf_4 : decode cX4_colourOf 4 = .ok (.ishr, 1) := by decide +kernel
theorem dX4_colourOf_5 : decode cX4_colourOf 5 = .ok (.bipush 7, 2) := by decide +kernel
theorem dX4_colourOf_7 : decode cX4_colourOf 7 = .ok (.iand, 1) := by decide +kernel
theorem dX4_colourOf_8 : decode cX4_colourOf 8 = .ok (.ireturn, 1) := by decide +kernel
set_option maxRecDepth 20000 in
theorem ggX4_areAlike_X4_rotated : GoodIn wsX4_areAlike wsX4_rotated := goodIn_r _ [4, 5, 6, 7, 8, 9] (by decide +kernel) (by decide +kernel)
set_option maxRecDepth 20000 in
theorem gX4_areAlike_X4_rotated : GoodIn wsX4_areAlike (va_wsS RX4 64 yX4_rotated wsX4_rotated) := goodIn_app (goodIn_of _ (by decide +kernel)) ggX4_areAlike_X4_rotated
theorem dX4_areAlike_0 : decode cX4_areAlike 0 = .ok (.iconst 1, 1) := by decide +kernel
theorem dX4_areAlike_1 : decode cX4_areAlike 1 = .ok (.istore 5, 2) := by decide +kernel
theorem dX4_areAlike_3 : decode cX4_areAlike 3 = .ok (.iconst 0, 1) := by decide +kernel
theorem dX4_areAlike_4 : decode cX4_areAlike 4 = .ok (.istore 6, 2) := by decide +kernel
theorem dX4_areAlike_6 : decode cX4_areAlike 6 = .ok (.iload 6, 2) := by decide +kernel
theorem dX4_areAlike_8 : decode cX4_areAlike 8 = .ok (.iconst 3, 1) := by decide +kernel
theorem dX4_areAlike_9 : decode cX4_areAlike 9 = .ok (.if_icmp .ge 43, 3) := by decide +kernel
theorem dX4_areAlike_12 : decode cX4_areAlike 12 = .ok (.iload 5, 2) := by decide +kernel
theorem dX4_areAlike_14 : decode cX4_areAlike 14 = .ok (.aload_n 0, 1) := by decide +kernel
theorem dX4_areAlike_15 : decode cX4_areAlike 15 = .ok (.iconst 3, 1) := by decide +kernel
theorem dX4_areAlike_16 : decode cX4_areAlike 16 = .ok (.iload_n 1, 1) := by decide +kernel
theorem dX4_areAlike_17 : decode cX4_areAlike 17 = .ok (.imul, 1) := by decide +kernel
theorem dX4_areAlike_18 : decode cX4_areAlike 18 = .ok (.iload 6, 2) := by decide +kernel
theorem dX4_areAlike_20 : decode cX4_areAlike 20 = .ok (.iadd, 1) := by decide +kernel
theorem dX4_areAlike_21 : decode cX4_areAlike 21 = .ok (.iaload, 1) := by decide +kernel
theorem dX4_areAlike_22 : decode cX4_areAlike 22 = .ok (.iload_n 2, 1) := by decide +kernel
theorem dX4_areAlike_23 : decode cX4_areAlike 23 = .ok (.invokestatic 64, 3) := by decide +kernel
theorem dX4_areAlike_26 : decode cX4_areAlike 26 = .ok (.aload_n 3, 1) := by decide +kernel
theorem dX4_areAlike_27 : decode cX4_areAlike 27 = .ok (.iconst 3, 1) := by decide +kernel
theorem dX4_areAlike_28 : decode cX4_areAlike 28 = .ok (.iload 4, 2) := by decide +kernel
theorem dX4_areAlike_30 : decode cX4_areAlike 30 = .ok (.imul, 1) := by decide +kernel
theorem dX4_areAlike_31 : decode cX4_areAlike 31 = .ok (.iload 6, 2) := by decide +kernel
theorem dX4_areAlike_33 : decode cX4_areAlike 33 = .ok (.iadd, 1) := by decide +kernel
theorem dX4_areAlike_34 : decode cX4_areAlike 34 = .ok (.iaload, 1) := by decide +kernel
theorem dX4_areAlike_35 : decode cX4_areAlike 35 = .ok (.if_icmp .ne 7, 3) := by decide +kernel
theorem dX4_areAlike_38 : decode cX4_areAlike 38 = .ok (.iconst 1, 1) := by decide +kernel
theorem dX4_areAlike_39 : decode cX4_areAlike 39 = .ok (.goto 4, 3) := by decide +kernel
theorem dX4_areAlike_42 : decode cX4_areAlike 42 = .ok (.iconst 0, 1) := by decide +kernel
theorem dX4_areAlike_43 : decode cX4_areAlike 43 = .ok (.iand, 1) := by decide +kernel
theorem dX4_areAlike_44 : decode cX4_areAlike 44 = .ok (.istore 5, 2) := by decide +kernel
theorem dX4_areAlike_46 : decode cX4_areAlike 46 = .ok (.iinc 6 1, 3) := by decide +kernel
theorem dX4_areAlike_49 : decode cX4_areAlike 49 = .ok (.goto (-43), 3) := by decide +kernel
theorem dX4_areAlike_52 : decode cX4_areAlike 52 = .ok (.iload 5, 2) := by decide +kernel
theorem dX4_areAlike_54 : decode cX4_areAlike 54 = .ok (.ireturn, 1) := by decide +kernel
set_option maxRecDepth 20000 in
theorem ggX4_begin_X4_no : GoodIn wsX4_begin wsX4_no := goodIn_r _ [10, 1, 11, 12, 13, 14, 15, 16, 17, 18, 19, 20, 21, 22, 23, 24, 25] (by decide +kernel) (by decide +kernel)
set_option maxRecDepth 20000 in
theorem gX4_begin_X4_no : GoodIn wsX4_begin (wsV RX4 67 RX4 yX4_no wsX4_no) := goodIn_app (goodIn_of _ (by decide +kernel)) ggX4_begin_X4_no
theorem dX4_begin_0 : decode cX4_begin 0 = .ok (.aload_n 0, 1) := by decide +kernel
theorem dX4_begin_1 : decode cX4_begin 1 = .ok (.iconst 0, 1) := by decide +kernel
theorem dX4_begin_2 : decode cX4_begin 2 = .ok (.putfield 41, 3) := by decide +kernel
theorem dX4_begin_5 : decode cX4_begin 5 = .ok (.aload_n 0, 1) := by decide +kernel
theorem dX4_begin_6 : decode cX4_begin 6 = .ok (.getfield 44, 3) := by decide +kernel
theorem dX4_begin_9 : decode cX4_begin 9 = .ok (.bipush 8, 2) := by decide +kernel
theorem dX4_begin_11 : decode cX4_begin 11 = .ok (.if_icmp .ne 9, 3) := by decide +kernel
theorem dX4_begin_14 : decode cX4_begin 14 = .ok (.aload_n 0, 1) := by decide +kernel
theorem dX4_begin_15 : decode cX4_begin 15 = .ok (.iconst 1, 1) := by decide +kernel
theorem dX4_begin_16 : decode cX4_begin 16 = .ok (.invokevirtual 67, 3) := by decide +kernel
theorem dX4_begin_19 : decode cX4_begin 19 = .ok (.ireturn, 1) := by decide +kernel
theorem dX4_begin_20 : decode cX4_begin 20 = .ok (.aload_n 0, 1) := by decide +kernel
theorem dX4_begin_21 : decode cX4_begin 21 = .ok (.getfield 13, 3) := by decide +kernel
theorem dX4_begin_24 : decode cX4_begin 24 = .ok (.aload_n 0, 1) := by decide +kernel
theorem dX4_begin_25 : decode cX4_begin 25 = .ok (.getfield 44, 3) := by decide +kernel
theorem dX4_begin_28 : decode cX4_begin 28 = .ok (.bipush 8, 2) := by decide +kernel
theorem dX4_begin_30 : decode cX4_begin 30 = .ok (.iastore, 1) := by decide +kernel
theorem dX4_begin_31 : decode cX4_begin 31 = .ok (.aload_n 0, 1) := by decide +kernel
theorem dX4_begin_32 : decode cX4_begin 32 = .ok (.getfield 20, 3) := by decide +kernel
theorem dX4_begin_35 : decode cX4_begin 35 = .ok (.aload_n 0, 1) := by decide +kernel
theorem dX4_begin_36 : decode cX4_begin 36 = .ok (.getfield 44, 3) := by decide +kernel
theorem dX4_begin_39 : decode cX4_begin 39 = .ok (.bipush 10, 2) := by decide +kernel
theorem dX4_begin_41 : decode cX4_begin 41 = .ok (.iastore, 1) := by decide +kernel
theorem dX4_begin_42 : decode cX4_begin 42 = .ok (.aload_n 0, 1) := by decide +kernel
theorem dX4_begin_43 : decode cX4_begin 43 = .ok (.getfield 23, 3) := by decide +kernel
theorem dX4_begin_46 : decode cX4_begin 46 = .ok (.aload_n 0, 1) := by decide +kernel
theorem dX4_begin_47 : decode cX4_begin 47 = .ok (.getfield 44, 3) := by decide +kernel
theorem dX4_begin_50 : decode cX4_begin 50 = .ok (.iconst 1, 1) := by decide +kernel
theorem dX4_begin_51 : decode cX4_begin 51 = .ok (.iastore, 1) := by decide +kernel
theorem dX4_begin_52 : decode cX4_begin 52 = .ok (.aload_n 0, 1) := by decide +kernel
theorem dX4_begin_53 : decode cX4_begin 53 = .ok (.dup, 1) := by decide +kernel
theorem dX4_begin_54 : decode cX4_begin 54 = .ok (.getfield 44, 3) := by decide +kernel
theorem dX4_begin_57 : decode cX4_begin 57 = .ok (.iconst 1, 1) := by decide +kernel
theorem dX4_begin_58 : decode cX4_begin 58 = .ok (.iadd, 1) := by decide +kernel
theorem dX4_begin_59 : decode cX4_begin 59 = .ok (.putfield 44, 3) := by decide +kernel
theorem dX4_begin_62 : decode cX4_begin 62 = .ok (.aload_n 0, 1) := by decide +kernel
theorem dX4_begin_63 : decode cX4_begin 63 = .ok (.getfield 44, 3) := by decide +kernel
theorem dX4_begin_66 : decode cX4_begin 66 = .ok (.iconst 1, 1) := by decide +kernel
theorem dX4_begin_67 : decode cX4_begin 67 = .ok (.isub, 1) := by decide +kernel
theorem dX4_begin_68 : decode cX4_begin 68 = .ok (.ireturn, 1) := by decide +kernel
theorem dX4_pass_0 : decode cX4_pass 0 = .ok (.iconst 0, 1) := by decide +kernel
theorem dX4_pass_1 : decode cX4_pass 1 = .ok (.istore_n 1, 1) := by decide +kernel
theorem dX4_pass_2 : decode cX4_pass 2 = .ok (.iload_n 1, 1) := by decide +kernel
theorem dX4_pass_3 : decode cX4_pass 3 = .ok (.aload_n 0, 1) := by decide +kernel
theorem dX4_pass_4 : decode cX4_pass 4 = .ok (.getfield 44, 3) := by decide +kernel
theorem dX4_pass_7 : decode cX4_pass 7 = .ok (.if_icmp .ge 51, 3) := by decide +kernel
theorem dX4_pass_10 : decode cX4_pass 10 = .ok (.aload_n 0, 1) := by decide +kernel
theorem dX4_pass_11 : decode cX4_pass 11 = .ok (.getfield 20, 3) := by decide +kernel
theorem dX4_pass_14 : decode cX4_pass 14 = .ok (.iload_n 1, 1) := by decide +kernel
theorem dX4_pass_15 : decode cX4_pass 15 = .ok (.iload_n 1, 1) := by decide +kernel
theorem dX4_pass_16 : decode cX4_pass 16 = .ok (.aload_n 0, 1) := by decide +kernel
theorem dX4_pass_17 : decode cX4_pass 17 = .ok (.getfield 9, 3) := by decide +kernel
theorem dX4_pass_20 : decode cX4_pass 20 = .ok (.if_icmp .ne 19, 3) := by decide +kernel
theorem dX4_pass_23 : decode cX4_pass 23 = .ok (.bipush 10, 2) := by decide +kernel
theorem dX4_pass_25 : decode cX4_pass 25 = .ok (.aload_n 0, 1) := by decide +kernel
theorem dX4_pass_26 : decode cX4_pass 26 = .ok (.getfield 20, 3) := by decide +kernel
theorem dX4_pass_29 : decode cX4_pass 29 = .ok (.iload_n 1, 1) := by decide +kernel
theorem dX4_pass_30 : decode cX4_pass 30 = .ok (.iaload, 1) := by decide +kernel
theorem dX4_pass_31 : decode cX4_pass 31 = .ok (.iconst 3, 1) := by decide +kernel
theorem dX4_pass_32 : decode cX4_pass 32 = .ok (.iadd, 1) := by decide +kernel
theorem dX4_pass_33 : decode cX4_pass 33 = .ok (.invokestatic 71, 3) := by decide +kernel
theorem dX4_pass_36 : decode cX4_pass 36 = .ok (.goto 15, 3) := by decide +kernel
theorem dX4_pass_39 : decode cX4_pass 39 = .ok (.iconst 0, 1) := by decide +kernel
theorem dX4_pass_40 : decode cX4_pass 40 = .ok (.aload_n 0, 1) := by decide +kernel
theorem dX4_pass_41 : decode cX4_pass 41 = .ok (.getfield 20, 3) := by decide +kernel
theorem dX4_pass_44 : decode cX4_pass 44 = .ok (.iload_n 1, 1) := by decide +kernel
theorem dX4_pass_45 : decode cX4_pass 45 = .ok (.iaload, 1) := by decide +kernel
theorem dX4_pass_46 : decode cX4_pass 46 = .ok (.iconst 1, 1) := by decide +kernel
theorem dX4_pass_47 : decode cX4_pass 47 = .ok (.isub, 1) := by decide +kernel
theorem dX4_pass_48 : decode cX4_pass 48 = .ok (.invokestatic 74, 3) := by decide +kernel
theorem dX4_pass_51 : decode cX4_pass 51 = .ok (.iastore, 1) := by decide +kernel
theorem dX4_pass_52 : decode cX4_pass 52 = .ok (.iinc 1 1, 3) := by decide +kernel
theorem dX4_pass_55 : decode cX4_pass 55 = .ok (.goto (-53), 3) := by decide +kernel
theorem dX4_pass_58 : decode cX4_pass 58 = .ok (.aload_n 0, 1) := by decide +kernel
theorem dX4_pass_59 : decode cX4_pass 59 = .ok (.dup, 1) := by decide +kernel
theorem dX4_pass_60 : decode cX4_pass 60 = .ok (.getfield 77, 3) := by decide +kernel
theorem dX4_pass_63 : decode cX4_pass 63 = .ok (.iconst 1, 1) := by decide +kernel
theorem dX4_pass_64 : decode cX4_pass 64 = .ok (.iadd, 1) := by decide +kernel
theorem dX4_pass_65 : decode cX4_pass 65 = .ok (.putfield 77, 3) := by decide +kernel
theorem dX4_pass_68 : decode cX4_pass 68 = .ok (.return_, 1) := by decide +kernel
set_option maxRecDepth 20000 in
theorem ggX4_bears_X4_pass : GoodIn wsX4_bears wsX4_pass := goodIn_r _ [7, 8, 1, 9, 10, 11, 12, 13, 14, 15, 16, 17, 18, 19, 20, 21, 22, 23, 24, 25, 26, 27, 28, 29, 30, 31, 32] (by decide +kernel) (by decide +kernel)
set_option maxRecDepth 20000 in
theorem gX4_bears_X4_pass : GoodIn wsX4_bears (wsV RX4 80 RX4 yX4_pass wsX4_pass) := goodIn_app (goodIn_of _ (by decide +kernel)) ggX4_bears_X4_pass
theorem dX4_bears_0 : decode cX4_bears 0 = .ok (.aload_n 0, 1) := by decide +kernel
theorem dX4_bears_1 : decode cX4_bears 1 = .ok (.getfield 20, 3) := by decide +kernel
theorem dX4_bears_4 : decode cX4_bears 4 = .ok (.iload_n 1, 1) := by decide +kernel
theorem dX4_bears_5 : decode cX4_bears 5 = .ok (.iaload, 1) := by decide +kernel
theorem dX4_bears_6 : decode cX4_bears 6 = .ok (.iload_n 2, 1) := by decide +kernel
theorem dX4_bears_7 : decode cX4_bears 7 = .ok (.if_icmp .ge 16, 3) := by decide +kernel
theorem dX4_bears_10 : decode cX4_bears 10 = .ok (.aload_n 0, 1) := by decide +kernel
theorem dX4_bears_11 : decode cX4_bears 11 = .ok (.getfield 23, 3) := by decide +kernel
theorem dX4_bears_14 : decode cX4_bears 14 = .ok (.iload_n 1, 1) := by decide +kernel
theorem dX4_bears_15 : decode cX4_bears 15 = .ok (.iconst 0, 1) := by decide +kernel
theorem dX4_bears_16 : decode cX4_bears 16 = .ok (.iastore, 1) := by decide +kernel
theorem dX4_bears_17 : decode cX4_bears 17 = .ok (.aload_n 0, 1) := by decide +kernel
theorem dX4_bears_18 : decode cX4_bears 18 = .ok (.invokevirtual 80, 3) := by decide +kernel
theorem dX4_bears_21 : decode cX4_bears 21 = .ok (.iconst 0, 1) := by decide +kernel
theorem dX4_bears_22 : decode cX4_bears 22 = .ok (.ireturn, 1) := by decide +kernel
theorem dX4_bears_23 : decode cX4_bears 23 = .ok (.aload_n 0, 1) := by decide +kernel
theorem dX4_bears_24 : decode cX4_bears 24 = .ok (.getfield 20, 3) := by decide +kernel
theorem dX4_bears_27 : decode cX4_bears 27 = .ok (.iload_n 1, 1) := by decide +kernel
theorem dX4_bears_28 : decode cX4_bears 28 = .ok (.dup2, 1) := by decide +kernel
theorem dX4_bears_29 : decode cX4_bears 29 = .ok (.iaload, 1) := by decide +kernel
theorem dX4_bears_30 : decode cX4_bears 30 = .ok (.iconst 1, 1) := by decide +kernel
theorem dX4_bears_31 : decode cX4_bears 31 = .ok (.isub, 1) := by decide +kernel
theorem dX4_bears_32 : decode cX4_bears 32 = .ok (.iastore, 1) := by decide +kernel
theorem dX4_bears_33 : decode cX4_bears 33 = .ok (.aload_n 0, 1) := by decide +kernel
theorem dX4_bears_34 : decode cX4_bears 34 = .ok (.invokevirtual 80, 3) := by decide +kernel
theorem dX4_bears_37 : decode cX4_bears 37 = .ok (.iconst 1, 1) := by decide +kernel
theorem dX4_bears_38 : decode cX4_bears 38 = .ok (.ireturn, 1) := by decide +kernel
set_option maxRecDepth 20000 in
theorem ggX4_lay_X4_isCane : GoodIn wsX4_lay wsX4_isCane := goodIn_r _ [8, 9, 10, 11, 7, 12, 38, 39, 40, 41, 42, 43, 44, 45, 46, 47, 48, 49, 50, 51, 52] (by decide +kernel) (by decide +kernel)
set_option maxRecDepth 20000 in
theorem gX4_lay_X4_isCane : GoodIn wsX4_lay (wsV RX4 83 RX4 yX4_isCane wsX4_isCane) := goodIn_app (goodIn_of _ (by decide +kernel)) ggX4_lay_X4_isCane
set_option maxRecDepth 20000 in
theorem ggX4_lay_X4_no : GoodIn wsX4_lay wsX4_no := goodIn_r _ [16, 1, 38, 39, 40, 41, 42, 43, 44, 45, 46, 47, 48, 49, 50, 51, 52] (by decide +kernel) (by decide +kernel)
set_option maxRecDepth 20000 in
theorem gX4_lay_X4_no : GoodIn wsX4_lay (wsV RX4 67 RX4 yX4_no wsX4_no) := goodIn_app (goodIn_of _ (by decide +kernel)) ggX4_lay_X4_no
set_option maxRecDepth 20000 in
theorem ggX4_lay_X4_isSpot : GoodIn wsX4_lay wsX4_isSpot := goodIn_r _ [19, 10, 11, 7, 12] (by decide +kernel) (by decide +kernel)
set_option maxRecDepth 20000 in
theorem gX4_lay_X4_isSpot : GoodIn wsX4_lay (va_wsS RX4 87 yX4_isSpot wsX4_isSpot) := goodIn_app (goodIn_of _ (by decide +kernel)) ggX4_lay_X4_isSpot
set_option maxRecDepth 20000 in
theorem ggX4_lay_X4_isIn : GoodIn wsX4_lay wsX4_isIn := goodIn_r _ [12] (by decide +kernel) (by decide +kernel)
set_option maxRecDepth 20000 in
theorem gX4_lay_X4_isIn : GoodIn wsX4_lay (va_wsS RX4 47 yX4_isIn wsX4_isIn) := goodIn_app (goodIn_of _ (by decide +kernel)) ggX4_lay_X4_isIn
set_option maxRecDepth 20000 in
theorem ggX4_lay_X4_bears : GoodIn wsX4_lay wsX4_bears := goodIn_r _ [23, 24, 2, 25, 26, 27, 7, 28, 9, 29, 30, 31, 32, 33, 34, 35, 36, 37, 38, 39, 40, 41, 42, 43, 44, 45, 46, 47, 48, 49, 50, 51, 52] (by decide +kernel) (by decide +kernel)
set_option maxRecDepth 20000 in
theorem gX4_lay_X4_bears : GoodIn wsX4_lay (wsV RX4 91 RX4 yX4_bears wsX4_bears) := goodIn_app (goodIn_of _ (by decide +kernel)) ggX4_lay_X4_bears
theorem dX4_lay_0 : decode cX4_lay 0 = .ok (.aload_n 0, 1) := by decide +kernel
theorem dX4_lay_1 : decode cX4_lay 1 = .ok (.iconst 0, 1) := by decide +kernel
theorem dX4_lay_2 : decode cX4_lay 2 = .ok (.putfield 41, 3) := by decide +kernel
theorem dX4_lay_5 : decode cX4_lay 5 = .ok (.aload_n 0, 1) := by decide +kernel
theorem dX4_lay_6 : decode cX4_lay 6 = .ok (.iload_n 1, 1) := by decide +kernel
theorem dX4_lay_7 : decode cX4_lay 7 = .ok (.invokevirtual 83, 3) := by decide +kernel
theorem dX4_lay_10 : decode cX4_lay 10 = .ok (.ifCond .ne 17, 3) := by decide +kernel
theorem dX4_lay_13 : decode cX4_lay 13 = .ok (.aload_n 0, 1) := by decide +kernel
theorem dX4_lay_14 : decode cX4_lay 14 = .ok (.iconst 1, 1) := by decide +kernel
theorem dX4_lay_15 : decode cX4_lay 15 = .ok (.invokevirtual 67, 3) := by decide +kernel
theorem dX4_lay_18 : decode cX4_lay 18 = .ok (.ifCond .eq 7, 3) := by decide +kernel
theorem dX4_lay_21 : decode cX4_lay 21 = .ok (.iconst 1, 1) := by decide +kernel
theorem dX4_lay_22 : decode cX4_lay 22 = .ok (.goto 4, 3) := by decide +kernel
theorem dX4_lay_25 : decode cX4_lay 25 = .ok (.iconst 0, 1) := by decide +kernel
theorem dX4_lay_26 : decode cX4_lay 26 = .ok (.ireturn, 1) := by decide +kernel
theorem dX4_lay_27 : decode cX4_lay 27 = .ok (.iload_n 2, 1) := by decide +kernel
theorem dX4_lay_28 : decode cX4_lay 28 = .ok (.iload_n 3, 1) := by decide +kernel
theorem dX4_lay_29 : decode cX4_lay 29 = .ok (.invokestatic 87, 3) := by decide +kernel
theorem dX4_lay_32 : decode cX4_lay 32 = .ok (.ifCond .eq 25, 3) := by decide +kernel
theorem dX4_lay_35 : decode cX4_lay 35 = .ok (.iload 4, 2) := by decide +kernel
theorem dX4_lay_37 : decode cX4_lay 37 = .ok (.iconst 1, 1) := by decide +kernel
theorem dX4_lay_38 : decode cX4_lay 38 = .ok (.bipush 8, 2) := by decide +kernel
theorem dX4_lay_40 : decode cX4_lay 40 = .ok (.invokestatic 47, 3) := by decide +kernel
theorem dX4_lay_43 : decode cX4_lay 43 = .ok (.ifCond .eq 14, 3) := by decide +kernel
theorem dX4_lay_46 : decode cX4_lay 46 = .ok (.iload 5, 2) := by decide +kernel
theorem dX4_lay_48 : decode cX4_lay 48 = .ok (.iconst 0, 1) := by decide +kernel
theorem dX4_lay_49 : decode cX4_lay 49 = .ok (.bipush 7, 2) := by decide +kernel
theorem dX4_lay_51 : decode cX4_lay 51 = .ok (.invokestatic 47, 3) := by decide +kernel
theorem dX4_lay_54 : decode cX4_lay 54 = .ok (.ifCond .ne 17, 3) := by decide +kernel
theorem dX4_lay_57 : decode cX4_lay 57 = .ok (.aload_n 0, 1) := by decide +kernel
theorem dX4_lay_58 : decode cX4_lay 58 = .ok (.iconst 2, 1) := by decide +kernel
theorem dX4_lay_59 : decode cX4_lay 59 = .ok (.invokevirtual 67, 3) := by decide +kernel
theorem dX4_lay_62 : decode cX4_lay 62 = .ok (.ifCond .eq 7, 3) := by decide +kernel
theorem dX4_lay_65 : decode cX4_lay 65 = .ok (.iconst 1, 1) := by decide +kernel
theorem dX4_lay_66 : decode cX4_lay 66 = .ok (.goto 4, 3) := by decide +kernel
theorem dX4_lay_69 : decode cX4_lay 69 = .ok (.iconst 0, 1) := by decide +kernel
theorem dX4_lay_70 : decode cX4_lay 70 = .ok (.ireturn, 1) := by decide +kernel
theorem dX4_lay_71 : decode cX4_lay 71 = .ok (.aload_n 0, 1) := by decide +kernel
theorem dX4_lay_72 : decode cX4_lay 72 = .ok (.getfield 23, 3) := by decide +kernel
theorem dX4_lay_75 : decode cX4_lay 75 = .ok (.iload_n 1, 1) := by decide +kernel
theorem dX4_lay_76 : decode cX4_lay 76 = .ok (.iaload, 1) := by decide +kernel
theorem dX4_lay_77 : decode cX4_lay 77 = .ok (.ifCond .ne 17, 3) := by decide +kernel
theorem dX4_lay_80 : decode cX4_lay 80 = .ok (.aload_n 0, 1) := by decide +kernel
theorem dX4_lay_81 : decode cX4_lay 81 = .ok (.iconst 3, 1) := by decide +kernel
theorem dX4_lay_82 : decode cX4_lay 82 = .ok (.invokevirtual 67, 3) := by decide +kernel
theorem dX4_lay_85 : decode cX4_lay 85 = .ok (.ifCond .eq 7, 3) := by decide +kernel
theorem dX4_lay_88 : decode cX4_lay 88 = .ok (.iconst 1, 1) := by decide +kernel
theorem dX4_lay_89 : decode cX4_lay 89 = .ok (.goto 4, 3) := by decide +kernel
theorem dX4_lay_92 : decode cX4_lay 92 = .ok (.iconst 0, 1) := by decide +kernel
theorem dX4_lay_93 : decode cX4_lay 93 = .ok (.ireturn, 1) := by decide +kernel
theorem dX4_lay_94 : decode cX4_lay 94 = .ok (.aload_n 0, 1) := by decide +kernel
theorem dX4_lay_95 : decode cX4_lay 95 = .ok (.iload_n 1, 1) := by decide +kernel
theorem dX4_lay_96 : decode cX4_lay 96 = .ok (.iconst 2, 1) := by decide +kernel
theorem dX4_lay_97 : decode cX4_lay 97 = .ok (.invokevirtual 91, 3) := by decide +kernel
theorem dX4_lay_100 : decode cX4_lay 100 = .ok (.ifCond .ne 5, 3) := by decide +kernel
theorem dX4_lay_103 : decode cX4_lay 103 = .ok (.iconst 0, 1) := by decide +kernel
theorem dX4_lay_104 : decode cX4_lay 104 = .ok (.ireturn, 1) := by decide +kernel
theorem dX4_lay_105 : decode cX4_lay 105 = .ok (.iconst 3, 1) := by decide +kernel
theorem dX4_lay_106 : decode cX4_lay 106 = .ok (.iload_n 1, 1) := by decide +kernel
theorem dX4_lay_107 : decode cX4_lay 107 = .ok (.imul, 1) := by decide +kernel
theorem dX4_lay_108 : decode cX4_lay 108 = .ok (.iload_n 2, 1) := by decide +kernel
theorem dX4_lay_109 : decode cX4_lay 109 = .ok (.iadd, 1) := by decide +kernel
theorem dX4_lay_110 : decode cX4_lay 110 = .ok (.istore 6, 2) := by decide +kernel
theorem dX4_lay_112 : decode cX4_lay 112 = .ok (.iload_n 3, 1) := by decide +kernel
theorem dX4_lay_113 : decode cX4_lay 113 = .ok (.istore 7, 2) := by decide +kernel
theorem dX4_lay_115 : decode cX4_lay 115 = .ok (.iload 7, 2) := by decide +kernel
theorem dX4_lay_117 : decode cX4_lay 117 = .ok (.iload_n 3, 1) := by decide +kernel
theorem dX4_lay_118 : decode cX4_lay 118 = .ok (.iload 4, 2) := by decide +kernel
theorem dX4_lay_120 : decode cX4_lay 120 = .ok (.iadd, 1) := by decide +kernel
theorem dX4_lay_121 : decode cX4_lay 121 = .ok (.if_icmp .ge 46, 3) := by decide +kernel
theorem dX4_lay_124 : decode cX4_lay 124 = .ok (.iconst 3, 1) := by decide +kernel
theorem dX4_lay_125 : decode cX4_lay 125 = .ok (.iload 7, 2) := by decide +kernel
theorem dX4_lay_127 : decode cX4_lay 127 = .ok (.bipush 8, 2) := by decide +kernel
theorem dX4_lay_129 : decode cX4_lay 129 = .ok (.irem, 1) := by decide +kernel
theorem dX4_lay_130 : decode cX4_lay 130 = .ok (.imul, 1) := by decide +kernel
theorem dX4_lay_131 : decode cX4_lay 131 = .ok (.istore 8, 2) := by decide +kernel
theorem dX4_lay_133 : decode cX4_lay 133 = .ok (.aload_n 0, 1) := by decide +kernel
theorem dX4_lay_134 : decode cX4_lay 134 = .ok (.getfield 26, 3) := by decide +kernel
theorem dX4_lay_137 : decode cX4_lay 137 = .ok (.iload 6, 2) := by decide +kernel
theorem dX4_lay_139 : decode cX4_lay 139 = .ok (.aload_n 0, 1) := by decide +kernel
theorem dX4_lay_140 : decode cX4_lay 140 = .ok (.getfield 26, 3) := by decide +kernel
theorem dX4_lay_143 : decode cX4_lay 143 = .ok (.iload 6, 2) := by decide +kernel
theorem dX4_lay_145 : decode cX4_lay 145 = .ok (.iaload, 1) := by decide +kernel
theorem dX4_lay_146 : decode cX4_lay 146 = .ok (.bipush 7, 2) := by decide +kernel
theorem dX4_lay_148 : decode cX4_lay 148 = .ok (.iload 8, 2) := by decide +kernel
theorem dX4_lay_150 : decode cX4_lay 150 = .ok (.ishl, 1) := by decide +kernel
theorem dX4_lay_151 : decode cX4_lay 151 = .ok (.iconst (-1), 1) := by decide +kernel
theorem dX4_lay_152 : decode cX4_lay 152 = .ok (.ixor, 1) := by decide +kernel
theorem dX4_lay_153 : decode cX4_lay 153 = .ok (.iand, 1) := by decide +kernel
theorem dX4_lay_154 : decode cX4_lay 154 = .ok (.iload 5, 2) := by decide +kernel
theorem dX4_lay_156 : decode cX4_lay 156 = .ok (.iload 8, 2) := by decide +kernel
theorem dX4_lay_158 : decode cX4_lay 158 = .ok (.ishl, 1) := by decide +kernel
theorem dX4_lay_159 : decode cX4_lay 159 = .ok (.ior, 1) := by decide +kernel
theorem dX4_lay_160 : decode cX4_lay 160 = .ok (.iastore, 1) := by decide +kernel
theorem dX4_lay_161 : decode cX4_lay 161 = .ok (.iinc 7 1, 3) := by decide +kernel
theorem dX4_lay_164 : decode cX4_lay 164 = .ok (.goto (-49), 3) := by decide +kernel
theorem dX4_lay_167 : decode cX4_lay 167 = .ok (.iconst 1, 1) := by decide +kernel
theorem dX4_lay_168 : decode cX4_lay 168 = .ok (.ireturn, 1) := by decide +kernel
set_option maxRecDepth 20000 in
theorem ggX4_twist_X4_isCane : GoodIn wsX4_twist wsX4_isCane := goodIn_r _ [8, 9, 10, 11, 7, 12, 35, 36, 37, 38, 39, 40, 41, 42, 43, 44, 45, 46, 47, 48, 49] (by decide +kernel) (by decide +kernel)
set_option maxRecDepth 20000 in
theorem gX4_twist_X4_isCane : GoodIn wsX4_twist (wsV RX4 83 RX4 yX4_isCane wsX4_isCane) := goodIn_app (goodIn_of _ (by decide +kernel)) ggX4_twist_X4_isCane
set_option maxRecDepth 20000 in
theorem ggX4_twist_X4_no : GoodIn wsX4_twist wsX4_no := goodIn_r _ [16, 1, 35, 36, 37, 38, 39, 40, 41, 42, 43, 44, 45, 46, 47, 48, 49] (by decide +kernel) (by decide +kernel)
set_option maxRecDepth 20000 in
theorem gX4_twist_X4_no : GoodIn wsX4_twist (wsV RX4 67 RX4 yX4_no wsX4_no) := goodIn_app (goodIn_of _ (by decide +kernel)) ggX4_twist_X4_no
set_option maxRecDepth 20000 in
theorem ggX4_twist_X4_isIn : GoodIn wsX4_twist wsX4_isIn := goodIn_r _ [12] (by decide +kernel) (by decide +kernel)
set_option maxRecDepth 20000 in
theorem gX4_twist_X4_isIn : GoodIn wsX4_twist (va_wsS RX4 47 yX4_isIn wsX4_isIn) := goodIn_app (goodIn_of _ (by decide +kernel)) ggX4_twist_X4_isIn
set_option maxRecDepth 20000 in
theorem ggX4_twist_X4_bears : GoodIn wsX4_twist wsX4_bears := goodIn_r _ [20, 21, 2, 22, 23, 24, 7, 25, 9, 26, 27, 28, 29, 30, 31, 32, 33, 34, 35, 36, 37, 38, 39, 40, 41, 42, 43, 44, 45, 46, 47, 48, 49] (by decide +kernel) (by decide +kernel)
set_option maxRecDepth 20000 in
theorem gX4_twist_X4_bears : GoodIn wsX4_twist (wsV RX4 91 RX4 yX4_bears wsX4_bears) := goodIn_app (goodIn_of _ (by decide +kernel)) ggX4_twist_X4_bears
theorem dX4_twist_0 : decode cX4_twist 0 = .ok (.aload_n 0, 1) := by decide +kernel
theorem dX4_twist_1 : decode cX4_twist 1 = .ok (.iconst 0, 1) := by decide +kernel
theorem dX4_twist_2 : decode cX4_twist 2 = .ok (.putfield 41, 3) := by decide +kernel
theorem dX4_twist_5 : decode cX4_twist 5 = .ok (.aload_n 0, 1) := by decide +kernel
theorem dX4_twist_6 : decode cX4_twist 6 = .ok (.iload_n 1, 1) := by decide +kernel
theorem dX4_twist_7 : decode cX4_twist 7 = .ok (.invokevirtual 83, 3) := by decide +kernel
theorem dX4_twist_10 : decode cX4_twist 10 = .ok (.ifCond .ne 17, 3) := by decide +kernel
theorem dX4_twist_13 : decode cX4_twist 13 = .ok (.aload_n 0, 1) := by decide +kernel
theorem dX4_twist_14 : decode cX4_twist 14 = .ok (.iconst 1, 1) := by decide +kernel
theorem dX4_twist_15 : decode cX4_twist 15 = .ok (.invokevirtual 67, 3) := by decide +kernel
theorem dX4_twist_18 : decode cX4_twist 18 = .ok (.ifCond .eq 7, 3) := by decide +kernel
theorem dX4_twist_21 : decode cX4_twist 21 = .ok (.iconst 1, 1) := by decide +kernel
theorem dX4_twist_22 : decode cX4_twist 22 = .ok (.goto 4, 3) := by decide +kernel
theorem dX4_twist_25 : decode cX4_twist 25 = .ok (.iconst 0, 1) := by decide +kernel
theorem dX4_twist_26 : decode cX4_twist 26 = .ok (.ireturn, 1) := by decide +kernel
theorem dX4_twist_27 : decode cX4_twist 27 = .ok (.iload_n 2, 1) := by decide +kernel
theorem dX4_twist_28 : decode cX4_twist 28 = .ok (.ifCond .eq 13, 3) := by decide +kernel
theorem dX4_twist_31 : decode cX4_twist 31 = .ok (.iload_n 2, 1) := by decide +kernel
theorem dX4_twist_32 : decode cX4_twist 32 = .ok (.bipush (-4), 2) := by decide +kernel
theorem dX4_twist_34 : decode cX4_twist 34 = .ok (.iconst 4, 1) := by decide +kernel
theorem dX4_twist_35 : decode cX4_twist 35 = .ok (.invokestatic 47, 3) := by decide +kernel
theorem dX4_twist_38 : decode cX4_twist 38 = .ok (.ifCond .ne 17, 3) := by decide +kernel
theorem dX4_twist_41 : decode cX4_twist 41 = .ok (.aload_n 0, 1) := by decide +kernel
theorem dX4_twist_42 : decode cX4_twist 42 = .ok (.iconst 2, 1) := by decide +kernel
theorem dX4_twist_43 : decode cX4_twist 43 = .ok (.invokevirtual 67, 3) := by decide +kernel
theorem dX4_twist_46 : decode cX4_twist 46 = .ok (.ifCond .eq 7, 3) := by decide +kernel
theorem dX4_twist_49 : decode cX4_twist 49 = .ok (.iconst 1, 1) := by decide +kernel
theorem dX4_twist_50 : decode cX4_twist 50 = .ok (.goto 4, 3) := by decide +kernel
theorem dX4_twist_53 : decode cX4_twist 53 = .ok (.iconst 0, 1) := by decide +kernel
theorem dX4_twist_54 : decode cX4_twist 54 = .ok (.ireturn, 1) := by decide +kernel
theorem dX4_twist_55 : decode cX4_twist 55 = .ok (.aload_n 0, 1) := by decide +kernel
theorem dX4_twist_56 : decode cX4_twist 56 = .ok (.getfield 23, 3) := by decide +kernel
theorem dX4_twist_59 : decode cX4_twist 59 = .ok (.iload_n 1, 1) := by decide +kernel
theorem dX4_twist_60 : decode cX4_twist 60 = .ok (.iaload, 1) := by decide +kernel
theorem dX4_twist_61 : decode cX4_twist 61 = .ok (.ifCond .eq 20, 3) := by decide +kernel
theorem dX4_twist_64 : decode cX4_twist 64 = .ok (.aload_n 0, 1) := by decide +kernel
theorem dX4_twist_65 : decode cX4_twist 65 = .ok (.getfield 17, 3) := by decide +kernel
theorem dX4_twist_68 : decode cX4_twist 68 = .ok (.iload_n 1, 1) := by decide +kernel
theorem dX4_twist_69 : decode cX4_twist 69 = .ok (.iaload, 1) := by decide +kernel
theorem dX4_twist_70 : decode cX4_twist 70 = .ok (.iload_n 2, 1) := by decide +kernel
theorem dX4_twist_71 : decode cX4_twist 71 = .ok (.iadd, 1) := by decide +kernel
theorem dX4_twist_72 : decode cX4_twist 72 = .ok (.bipush (-4), 2) := by decide +kernel
theorem dX4_twist_74 : decode cX4_twist 74 = .ok (.iconst 4, 1) := by decide +kernel
theorem dX4_twist_75 : decode cX4_twist 75 = .ok (.invokestatic 47, 3) := by decide +kernel
theorem dX4_twist_78 : decode cX4_twist 78 = .ok (.ifCond .ne 17, 3) := by decide +kernel
theorem dX4_twist_81 : decode cX4_twist 81 = .ok (.aload_n 0, 1) := by decide +kernel
theorem dX4_twist_82 : decode cX4_twist 82 = .ok (.iconst 3, 1) := by decide +kernel
theorem dX4_twist_83 : decode cX4_twist 83 = .ok (.invokevirtual 67, 3) := by decide +kernel
theorem dX4_twist_86 : decode cX4_twist 86 = .ok (.ifCond .eq 7, 3) := by decide +kernel
theorem dX4_twist_89 : decode cX4_twist 89 = .ok (.iconst 1, 1) := by decide +kernel
theorem dX4_twist_90 : decode cX4_twist 90 = .ok (.goto 4, 3) := by decide +kernel
theorem dX4_twist_93 : decode cX4_twist 93 = .ok (.iconst 0, 1) := by decide +kernel
theorem dX4_twist_94 : decode cX4_twist 94 = .ok (.ireturn, 1) := by decide +kernel
theorem dX4_twist_95 : decode cX4_twist 95 = .ok (.aload_n 0, 1) := by decide +kernel
theorem dX4_twist_96 : decode cX4_twist 96 = .ok (.iload_n 1, 1) := by decide +kernel
theorem dX4_twist_97 : decode cX4_twist 97 = .ok (.iconst 4, 1) := by decide +kernel
theorem dX4_twist_98 : decode cX4_twist 98 = .ok (.invokevirtual 91, 3) := by decide +kernel
theorem dX4_twist_101 : decode cX4_twist 101 = .ok (.ifCond .ne 5, 3) := by decide +kernel
theorem dX4_twist_104 : decode cX4_twist 104 = .ok (.iconst 0, 1) := by decide +kernel
theorem dX4_twist_105 : decode cX4_twist 105 = .ok (.ireturn, 1) := by decide +kernel
theorem dX4_twist_106 : decode cX4_twist 106 = .ok (.aload_n 0, 1) := by decide +kernel
theorem dX4_twist_107 : decode cX4_twist 107 = .ok (.getfield 17, 3) := by decide +kernel
theorem dX4_twist_110 : decode cX4_twist 110 = .ok (.iload_n 1, 1) := by decide +kernel
theorem dX4_twist_111 : decode cX4_twist 111 = .ok (.dup2, 1) := by decide +kernel
theorem dX4_twist_112 : decode cX4_twist 112 = .ok (.iaload, 1) := by decide +kernel
theorem dX4_twist_113 : decode cX4_twist 113 = .ok (.iload_n 2, 1) := by decide +kernel
theorem dX4_twist_114 : decode cX4_twist 114 = .ok (.iadd, 1) := by decide +kernel
theorem dX4_twist_115 : decode cX4_twist 115 = .ok (.iastore, 1) := by decide +kernel
theorem dX4_twist_116 : decode cX4_twist 116 = .ok (.iconst 1, 1) := by decide +kernel
theorem dX4_twist_117 : decode cX4_twist 117 = .ok (.ireturn, 1) := by decide +kernel
set_option maxRecDepth 20000 in
theorem ggX4_pull_X4_isCane : GoodIn wsX4_pull wsX4_isCane := goodIn_r _ [13, 14, 15, 16, 12, 17, 36, 37, 38, 39, 40, 41, 42, 43, 44, 45, 46, 47, 48, 49, 50] (by decide +kernel) (by decide +kernel)
set_option maxRecDepth 20000 in
theorem gX4_pull_X4_isCane : GoodIn wsX4_pull (wsV RX4 83 RX4 yX4_isCane wsX4_isCane) := goodIn_app (goodIn_of _ (by decide +kernel)) ggX4_pull_X4_isCane
set_option maxRecDepth 20000 in
theorem ggX4_pull_X4_no : GoodIn wsX4_pull wsX4_no := goodIn_r _ [21, 1, 36, 37, 38, 39, 40, 41, 42, 43, 44, 45, 46, 47, 48, 49, 50] (by decide +kernel) (by decide +kernel)
set_option maxRecDepth 20000 in
theorem gX4_pull_X4_no : GoodIn wsX4_pull (wsV RX4 67 RX4 yX4_no wsX4_no) := goodIn_app (goodIn_of _ (by decide +kernel)) ggX4_pull_X4_no
set_option maxRecDepth 20000 in
theorem ggX4_pull_X4_bears : GoodIn wsX4_pull wsX4_bears := goodIn_r _ [25, 26, 2, 27, 28, 29, 12, 30, 14, 31, 4, 5, 6, 7, 32, 33, 34, 35, 36, 37, 38, 39, 40, 41, 42, 43, 44, 45, 46, 47, 48, 49, 50] (by decide +kernel) (by decide +kernel)
set_option maxRecDepth 20000 in
theorem gX4_pull_X4_bears : GoodIn wsX4_pull (wsV RX4 91 RX4 yX4_bears wsX4_bears) := goodIn_app (goodIn_of _ (by decide +kernel)) ggX4_pull_X4_bears
theorem dX4_pull_0 : decode cX4_pull 0 = .ok (.aload_n 0, 1) := by decide +kernel
theorem dX4_pull_1 : decode cX4_pull 1 = .ok (.iconst 0, 1) := by decide +kernel
theorem dX4_pull_2 : decode cX4_pull 2 = .ok (.putfield 41, 3) := by decide +kernel
theorem dX4_pull_5 : decode cX4_pull 5 = .ok (.aload_n 0, 1) := by decide +kernel
theorem dX4_pull_6 : decode cX4_pull 6 = .ok (.iload_n 1, 1) := by decide +kernel
theorem dX4_pull_7 : decode cX4_pull 7 = .ok (.invokevirtual 83, 3) := by decide +kernel
theorem dX4_pull_10 : decode cX4_pull 10 = .ok (.ifCond .ne 17, 3) := by decide +kernel
theorem dX4_pull_13 : decode cX4_pull 13 = .ok (.aload_n 0, 1) := by decide +kernel
theorem dX4_pull_14 : decode cX4_pull 14 = .ok (.iconst 1, 1) := by decide +kernel
theorem dX4_pull_15 : decode cX4_pull 15 = .ok (.invokevirtual 67, 3) := by decide +kernel
theorem dX4_pull_18 : decode cX4_pull 18 = .ok (.ifCond .eq 7, 3) := by decide +kernel
theorem dX4_pull_21 : decode cX4_pull 21 = .ok (.iconst 1, 1) := by decide +kernel
theorem dX4_pull_22 : decode cX4_pull 22 = .ok (.goto 4, 3) := by decide +kernel
theorem dX4_pull_25 : decode cX4_pull 25 = .ok (.iconst 0, 1) := by decide +kernel
theorem dX4_pull_26 : decode cX4_pull 26 = .ok (.ireturn, 1) := by decide +kernel
theorem dX4_pull_27 : decode cX4_pull 27 = .ok (.aload_n 0, 1) := by decide +kernel
theorem dX4_pull_28 : decode cX4_pull 28 = .ok (.getfield 23, 3) := by decide +kernel
theorem dX4_pull_31 : decode cX4_pull 31 = .ok (.iload_n 1, 1) := by decide +kernel
theorem dX4_pull_32 : decode cX4_pull 32 = .ok (.iaload, 1) := by decide +kernel
theorem dX4_pull_33 : decode cX4_pull 33 = .ok (.ifCond .ne 17, 3) := by decide +kernel
theorem dX4_pull_36 : decode cX4_pull 36 = .ok (.aload_n 0, 1) := by decide +kernel
theorem dX4_pull_37 : decode cX4_pull 37 = .ok (.iconst 2, 1) := by decide +kernel
theorem dX4_pull_38 : decode cX4_pull 38 = .ok (.invokevirtual 67, 3) := by decide +kernel
theorem dX4_pull_41 : decode cX4_pull 41 = .ok (.ifCond .eq 7, 3) := by decide +kernel
theorem dX4_pull_44 : decode cX4_pull 44 = .ok (.iconst 1, 1) := by decide +kernel
theorem dX4_pull_45 : decode cX4_pull 45 = .ok (.goto 4, 3) := by decide +kernel
theorem dX4_pull_48 : decode cX4_pull 48 = .ok (.iconst 0, 1) := by decide +kernel
theorem dX4_pull_49 : decode cX4_pull 49 = .ok (.ireturn, 1) := by decide +kernel
theorem dX4_pull_50 : decode cX4_pull 50 = .ok (.aload_n 0, 1) := by decide +kernel
theorem dX4_pull_51 : decode cX4_pull 51 = .ok (.iload_n 1, 1) := by decide +kernel
theorem dX4_pull_52 : decode cX4_pull 52 = .ok (.bipush 6, 2) := by decide +kernel
theorem dX4_pull_54 : decode cX4_pull 54 = .ok (.invokevirtual 91, 3) := by decide +kernel
theorem dX4_pull_57 : decode cX4_pull 57 = .ok (.ifCond .ne 5, 3) := by decide +kernel
theorem dX4_pull_60 : decode cX4_pull 60 = .ok (.iconst 0, 1) := by decide +kernel
theorem dX4_pull_61 : decode cX4_pull 61 = .ok (.ireturn, 1) := by decide +kernel
theorem dX4_pull_62 : decode cX4_pull 62 = .ok (.aload_n 0, 1) := by decide +kernel
theorem dX4_pull_63 : decode cX4_pull 63 = .ok (.getfield 13, 3) := by decide +kernel
theorem dX4_pull_66 : decode cX4_pull 66 = .ok (.iload_n 1, 1) := by decide +kernel
theorem dX4_pull_67 : decode cX4_pull 67 = .ok (.bipush 60, 2) := by decide +kernel
theorem dX4_pull_69 : decode cX4_pull 69 = .ok (.iconst 2, 1) := by decide +kernel
theorem dX4_pull_70 : decode cX4_pull 70 = .ok (.aload_n 0, 1) := by decide +kernel
theorem dX4_pull_71 : decode cX4_pull 71 = .ok (.getfield 13, 3) := by decide +kernel
theorem dX4_pull_74 : decode cX4_pull 74 = .ok (.iload_n 1, 1) := by decide +kernel
theorem dX4_pull_75 : decode cX4_pull 75 = .ok (.iaload, 1) := by decide +kernel
theorem dX4_pull_76 : decode cX4_pull 76 = .ok (.imul, 1) := by decide +kernel
theorem dX4_pull_77 : decode cX4_pull 77 = .ok (.invokestatic 71, 3) := by decide +kernel
theorem dX4_pull_80 : decode cX4_pull 80 = .ok (.iastore, 1) := by decide +kernel
theorem dX4_pull_81 : decode cX4_pull 81 = .ok (.aload_n 0, 1) := by decide +kernel
theorem dX4_pull_82 : decode cX4_pull 82 = .ok (.getfield 17, 3) := by decide +kernel
theorem dX4_pull_85 : decode cX4_pull 85 = .ok (.iload_n 1, 1) := by decide +kernel
theorem dX4_pull_86 : decode cX4_pull 86 = .ok (.dup2, 1) := by decide +kernel
theorem dX4_pull_87 : decode cX4_pull 87 = .ok (.iaload, 1) := by decide +kernel
theorem dX4_pull_88 : decode cX4_pull 88 = .ok (.iconst 2, 1) := by decide +kernel
theorem dX4_pull_89 : decode cX4_pull 89 = .ok (.idiv, 1) := by decide +kernel
theorem dX4_pull_90 : decode cX4_pull 90 = .ok (.iastore, 1) := by decide +kernel
theorem dX4_pull_91 : decode cX4_pull 91 = .ok (.iconst 1, 1) := by decide +kernel
theorem dX4_pull_92 : decode cX4_pull 92 = .ok (.ireturn, 1) := by decide +kernel
set_option maxRecDepth 20000 in
theorem ggX4_furnace_X4_isCane : GoodIn wsX4_furnace wsX4_isCane := goodIn_r _ [7, 8, 9, 10, 6, 11, 16, 17, 18, 19, 20, 21, 22, 23, 24, 25, 26, 27, 28, 29, 30] (by decide +kernel) (by decide +kernel)
set_option maxRecDepth 20000 in
theorem gX4_furnace_X4_isCane : GoodIn wsX4_furnace (wsV RX4 83 RX4 yX4_isCane wsX4_isCane) := goodIn_app (goodIn_of _ (by decide +kernel)) ggX4_furnace_X4_isCane
set_option maxRecDepth 20000 in
theorem ggX4_furnace_X4_no : GoodIn wsX4_furnace wsX4_no := goodIn_r _ [15, 1, 16, 17, 18, 19, 20, 21, 22, 23, 24, 25, 26, 27, 28, 29, 30] (by decide +kernel) (by decide +kernel)
set_option maxRecDepth 20000 in
theorem gX4_furnace_X4_no : GoodIn wsX4_furnace (wsV RX4 67 RX4 yX4_no wsX4_no) := goodIn_app (goodIn_of _ (by decide +kernel)) ggX4_furnace_X4_no
theorem dX4_furnace_0 : decode cX4_furnace 0 = .ok (.aload_n 0, 1) := by decide +kernel
theorem dX4_furnace_1 : decode cX4_furnace 1 = .ok (.iconst 0, 1) := by decide +kernel
theorem dX4_furnace_2 : decode cX4_furnace 2 = .ok (.putfield 41, 3) := by decide +kernel
theorem dX4_furnace_5 : decode cX4_furnace 5 = .ok (.iload_n 1, 1) := by decide +kernel
theorem dX4_furnace_6 : decode cX4_furnace 6 = .ok (.iconst (-1), 1) := by decide +kernel
theorem dX4_furnace_7 : decode cX4_furnace 7 = .ok (.if_icmp .eq 17, 3) := by decide +kernel
theorem dX4_furnace_10 : decode cX4_furnace 10 = .ok (.aload_n 0, 1) := by decide +kernel
theorem dX4_furnace_11 : decode cX4_furnace 11 = .ok (.iload_n 1, 1) := by decide +kernel
theorem dX4_furnace_12 : decode cX4_furnace 12 = .ok (.invokevirtual 83, 3) := by decide +kernel
theorem dX4_furnace_15 : decode cX4_furnace 15 = .ok (.ifCond .ne 9, 3) := by decide +kernel
theorem dX4_furnace_18 : decode cX4_furnace 18 = .ok (.aload_n 0, 1) := by decide +kernel
theorem dX4_furnace_19 : decode cX4_furnace 19 = .ok (.iconst 1, 1) := by decide +kernel
theorem dX4_furnace_20 : decode cX4_furnace 20 = .ok (.invokevirtual 67, 3) := by decide +kernel
theorem dX4_furnace_23 : decode cX4_furnace 23 = .ok (.ireturn, 1) := by decide +kernel
theorem dX4_furnace_24 : decode cX4_furnace 24 = .ok (.aload_n 0, 1) := by decide +kernel
theorem dX4_furnace_25 : decode cX4_furnace 25 = .ok (.getfield 9, 3) := by decide +kernel
theorem dX4_furnace_28 : decode cX4_furnace 28 = .ok (.istore_n 2, 1) := by decide +kernel
theorem dX4_furnace_29 : decode cX4_furnace 29 = .ok (.aload_n 0, 1) := by decide +kernel
theorem dX4_furnace_30 : decode cX4_furnace 30 = .ok (.iload_n 1, 1) := by decide +kernel
theorem dX4_furnace_31 : decode cX4_furnace 31 = .ok (.putfield 9, 3) := by decide +kernel
theorem dX4_furnace_34 : decode cX4_furnace 34 = .ok (.iload_n 2, 1) := by decide +kernel
theorem dX4_furnace_35 : decode cX4_furnace 35 = .ok (.ireturn, 1) := by decide +kernel
theorem dX4_allHeat_0 : decode cX4_allHeat 0 = .ok (.iconst 0, 1) := by decide +kernel
theorem dX4_allHeat_1 : decode cX4_allHeat 1 = .ok (.istore_n 1, 1) := by decide +kernel
theorem dX4_allHeat_2 : decode cX4_allHeat 2 = .ok (.iconst 0, 1) := by decide +kernel
theorem dX4_allHeat_3 : decode cX4_allHeat 3 = .ok (.istore_n 2, 1) := by decide +kernel
theorem dX4_allHeat_4 : decode cX4_allHeat 4 = .ok (.iload_n 2, 1) := by decide +kernel
theorem dX4_allHeat_5 : decode cX4_allHeat 5 = .ok (.aload_n 0, 1) := by decide +kernel
theorem dX4_allHeat_6 : decode cX4_allHeat 6 = .ok (.getfield 44, 3) := by decide +kernel
theorem dX4_allHeat_9 : decode cX4_allHeat 9 = .ok (.if_icmp .ge 18, 3) := by decide +kernel
theorem dX4_allHeat_12 : decode cX4_allHeat 12 = .ok (.iload_n 1, 1) := by decide +kernel
theorem dX4_allHeat_13 : decode cX4_allHeat 13 = .ok (.aload_n 0, 1) := by decide +kernel
theorem dX4_allHeat_14 : decode cX4_allHeat 14 = .ok (.getfield 20, 3) := by decide +kernel
theorem dX4_allHeat_17 : decode cX4_allHeat 17 = .ok (.iload_n 2, 1) := by decide +kernel
theorem dX4_allHeat_18 : decode cX4_allHeat 18 = .ok (.iaload, 1) := by decide +kernel
theorem dX4_allHeat_19 : decode cX4_allHeat 19 = .ok (.iadd, 1) := by decide +kernel
theorem dX4_allHeat_20 : decode cX4_allHeat 20 = .ok (.istore_n 1, 1) := by decide +kernel
theorem dX4_allHeat_21 : decode cX4_allHeat 21 = .ok (.iinc 2 1, 3) := by decide +kernel
theorem dX4_allHeat_24 : decode cX4_allHeat 24 = .ok (.goto (-20), 3) := by decide +kernel
theorem dX4_allHeat_27 : decode cX4_allHeat 27 = .ok (.iload_n 1, 1) := by decide +kernel
theorem dX4_allHeat_28 : decode cX4_allHeat 28 = .ok (.ireturn, 1) := by decide +kernel
set_option maxRecDepth 20000 in
theorem ggX4_rest_X4_isIn : GoodIn wsX4_rest wsX4_isIn := goodIn_r _ [5] (by decide +kernel) (by decide +kernel)
set_option maxRecDepth 20000 in
theorem gX4_rest_X4_isIn : GoodIn wsX4_rest (va_wsS RX4 47 yX4_isIn wsX4_isIn) := goodIn_app (goodIn_of _ (by decide +kernel)) ggX4_rest_X4_isIn
set_option maxRecDepth 20000 in
theorem ggX4_rest_X4_no : GoodIn wsX4_rest wsX4_no := goodIn_r _ [9, 1, 29, 30, 31, 32, 33, 34, 35, 36, 37, 38, 39, 40, 41, 42, 43] (by decide +kernel) (by decide +kernel)
set_option maxRecDepth 20000 in
theorem gX4_rest_X4_no : GoodIn wsX4_rest (wsV RX4 67 RX4 yX4_no wsX4_no) := goodIn_app (goodIn_of _ (by decide +kernel)) ggX4_rest_X4_no
set_option maxRecDepth 20000 in
theorem ggX4_rest_X4_pass : GoodIn wsX4_rest wsX4_pass := goodIn_r _ [13, 14, 15, 16, 17, 18, 19, 20, 21, 22, 23, 24, 29, 30, 31, 32, 33, 34, 35, 36, 37, 38, 39, 40, 41, 42, 43] (by decide +kernel) (by decide +kernel)
set_option maxRecDepth 20000 in
theorem gX4_rest_X4_pass : GoodIn wsX4_rest (wsV RX4 80 RX4 yX4_pass wsX4_pass) := goodIn_app (goodIn_of _ (by decide +kernel)) ggX4_rest_X4_pass
set_option maxRecDepth 20000 in
theorem ggX4_rest_X4_allHeat : GoodIn wsX4_rest wsX4_allHeat := goodIn_r _ [28, 14, 15, 29, 30, 31, 32, 33, 34, 35, 36, 37, 38, 39, 40, 41, 42, 43] (by decide +kernel) (by decide +kernel)
set_option maxRecDepth 20000 in
theorem gX4_rest_X4_allHeat : GoodIn wsX4_rest (wsV RX4 94 RX4 yX4_allHeat wsX4_allHeat) := goodIn_app (goodIn_of _ (by decide +kernel)) ggX4_rest_X4_allHeat
theorem dX4_rest_0 : decode cX4_rest 0 = .ok (.aload_n 0, 1) := by decide +kernel
theorem dX4_rest_1 : decode cX4_rest 1 = .ok (.iconst 0, 1) := by decide +kernel
theorem dX4_rest_2 : decode cX4_rest 2 = .ok (.putfield 41, 3) := by decide +kernel
theorem dX4_rest_5 : decode cX4_rest 5 = .ok (.iload_n 1, 1) := by decide +kernel
theorem dX4_rest_6 : decode cX4_rest 6 = .ok (.iconst 1, 1) := by decide +kernel
theorem dX4_rest_7 : decode cX4_rest 7 = .ok (.bipush 60, 2) := by decide +kernel
theorem dX4_rest_9 : decode cX4_rest 9 = .ok (.invokestatic 47, 3) := by decide +kernel
theorem dX4_rest_12 : decode cX4_rest 12 = .ok (.ifCond .ne 9, 3) := by decide +kernel
theorem dX4_rest_15 : decode cX4_rest 15 = .ok (.aload_n 0, 1) := by decide +kernel
theorem dX4_rest_16 : decode cX4_rest 16 = .ok (.iconst 1, 1) := by decide +kernel
theorem dX4_rest_17 : decode cX4_rest 17 = .ok (.invokevirtual 67, 3) := by decide +kernel
theorem dX4_rest_20 : decode cX4_rest 20 = .ok (.ireturn, 1) := by decide +kernel
theorem dX4_rest_21 : decode cX4_rest 21 = .ok (.iconst 0, 1) := by decide +kernel
theorem dX4_rest_22 : decode cX4_rest 22 = .ok (.istore_n 2, 1) := by decide +kernel
theorem dX4_rest_23 : decode cX4_rest 23 = .ok (.iload_n 2, 1) := by decide +kernel
theorem dX4_rest_24 : decode cX4_rest 24 = .ok (.iload_n 1, 1) := by decide +kernel
theorem dX4_rest_25 : decode cX4_rest 25 = .ok (.if_icmp .ge 13, 3) := by decide +kernel
theorem dX4_rest_28 : decode cX4_rest 28 = .ok (.aload_n 0, 1) := by decide +kernel
theorem dX4_rest_29 : decode cX4_rest 29 = .ok (.invokevirtual 80, 3) := by decide +kernel
theorem dX4_rest_32 : decode cX4_rest 32 = .ok (.iinc 2 1, 3) := by decide +kernel
theorem dX4_rest_35 : decode cX4_rest 35 = .ok (.goto (-12), 3) := by decide +kernel
theorem dX4_rest_38 : decode cX4_rest 38 = .ok (.aload_n 0, 1) := by decide +kernel
theorem dX4_rest_39 : decode cX4_rest 39 = .ok (.invokevirtual 94, 3) := by decide +kernel
theorem dX4_rest_42 : decode cX4_rest 42 = .ok (.ireturn, 1) := by decide +kernel
set_option maxRecDepth 20000 in
theorem ggX4_cut_X4_isCane : GoodIn wsX4_cut wsX4_isCane := goodIn_r _ [13, 14, 15, 16, 12, 17, 30, 31, 32, 33, 34, 35, 36, 37, 38, 39, 40, 41, 42, 43, 44] (by decide +kernel) (by decide +kernel)
set_option maxRecDepth 20000 in
theorem gX4_cut_X4_isCane : GoodIn wsX4_cut (wsV RX4 83 RX4 yX4_isCane wsX4_isCane) := goodIn_app (goodIn_of _ (by decide +kernel)) ggX4_cut_X4_isCane
set_option maxRecDepth 20000 in
theorem ggX4_cut_X4_no : GoodIn wsX4_cut wsX4_no := goodIn_r _ [21, 1, 30, 31, 32, 33, 34, 35, 36, 37, 38, 39, 40, 41, 42, 43, 44] (by decide +kernel) (by decide +kernel)
set_option maxRecDepth 20000 in
theorem gX4_cut_X4_no : GoodIn wsX4_cut (wsV RX4 67 RX4 yX4_no wsX4_no) := goodIn_app (goodIn_of _ (by decide +kernel)) ggX4_cut_X4_no
set_option maxRecDepth 20000 in
theorem ggX4_cut_X4_rotated : GoodIn wsX4_cut wsX4_rotated := goodIn_r _ [24, 25, 26, 27, 28, 29] (by decide +kernel) (by decide +kernel)
set_option maxRecDepth 20000 in
theorem gX4_cut_X4_rotated : GoodIn wsX4_cut (va_wsS RX4 64 yX4_rotated wsX4_rotated) := goodIn_app (goodIn_of _ (by decide +kernel)) ggX4_cut_X4_rotated
theorem dX4_cut_0 : decode cX4_cut 0 = .ok (.aload_n 0, 1) := by decide +kernel
theorem dX4_cut_1 : decode cX4_cut 1 = .ok (.iconst 0, 1) := by decide +kernel
theorem dX4_cut_2 : decode cX4_cut 2 = .ok (.putfield 41, 3) := by decide +kernel
theorem dX4_cut_5 : decode cX4_cut 5 = .ok (.aload_n 0, 1) := by decide +kernel
theorem dX4_cut_6 : decode cX4_cut 6 = .ok (.iload_n 1, 1) := by decide +kernel
theorem dX4_cut_7 : decode cX4_cut 7 = .ok (.invokevirtual 83, 3) := by decide +kernel
theorem dX4_cut_10 : decode cX4_cut 10 = .ok (.ifCond .ne 9, 3) := by decide +kernel
theorem dX4_cut_13 : decode cX4_cut 13 = .ok (.aload_n 0, 1) := by decide +kernel
theorem dX4_cut_14 : decode cX4_cut 14 = .ok (.iconst 1, 1) := by decide +kernel
theorem dX4_cut_15 : decode cX4_cut 15 = .ok (.invokevirtual 67, 3) := by decide +kernel
theorem dX4_cut_18 : decode cX4_cut 18 = .ok (.ireturn, 1) := by decide +kernel
theorem dX4_cut_19 : decode cX4_cut 19 = .ok (.aload_n 0, 1) := by decide +kernel
theorem dX4_cut_20 : decode cX4_cut 20 = .ok (.getfield 13, 3) := by decide +kernel
theorem dX4_cut_23 : decode cX4_cut 23 = .ok (.iload_n 1, 1) := by decide +kernel
theorem dX4_cut_24 : decode cX4_cut 24 = .ok (.iaload, 1) := by decide +kernel
theorem dX4_cut_25 : decode cX4_cut 25 = .ok (.ifCond .eq 22, 3) := by decide +kernel
theorem dX4_cut_28 : decode cX4_cut 28 = .ok (.aload_n 0, 1) := by decide +kernel
theorem dX4_cut_29 : decode cX4_cut 29 = .ok (.getfield 20, 3) := by decide +kernel
theorem dX4_cut_32 : decode cX4_cut 32 = .ok (.iload_n 1, 1) := by decide +kernel
theorem dX4_cut_33 : decode cX4_cut 33 = .ok (.iaload, 1) := by decide +kernel
theorem dX4_cut_34 : decode cX4_cut 34 = .ok (.iconst 3, 1) := by decide +kernel
theorem dX4_cut_35 : decode cX4_cut 35 = .ok (.if_icmp .gt 12, 3) := by decide +kernel
theorem dX4_cut_38 : decode cX4_cut 38 = .ok (.aload_n 0, 1) := by decide +kernel
theorem dX4_cut_39 : decode cX4_cut 39 = .ok (.getfield 51, 3) := by decide +kernel
theorem dX4_cut_42 : decode cX4_cut 42 = .ok (.bipush 60, 2) := by decide +kernel
theorem dX4_cut_44 : decode cX4_cut 44 = .ok (.if_icmp .ne 9, 3) := by decide +kernel
theorem dX4_cut_47 : decode cX4_cut 47 = .ok (.aload_n 0, 1) := by decide +kernel
theorem dX4_cut_48 : decode cX4_cut 48 = .ok (.iconst 2, 1) := by decide +kernel
theorem dX4_cut_49 : decode cX4_cut 49 = .ok (.invokevirtual 67, 3) := by decide +kernel
theorem dX4_cut_52 : decode cX4_cut 52 = .ok (.ireturn, 1) := by decide +kernel
theorem dX4_cut_53 : decode cX4_cut 53 = .ok (.aload_n 0, 1) := by decide +kernel
theorem dX4_cut_54 : decode cX4_cut 54 = .ok (.getfield 13, 3) := by decide +kernel
theorem dX4_cut_57 : decode cX4_cut 57 = .ok (.iload_n 1, 1) := by decide +kernel
theorem dX4_cut_58 : decode cX4_cut 58 = .ok (.dup2, 1) := by decide +kernel
theorem dX4_cut_59 : decode cX4_cut 59 = .ok (.iaload, 1) := by decide +kernel
theorem dX4_cut_60 : decode cX4_cut 60 = .ok (.iconst 1, 1) := by decide +kernel
theorem dX4_cut_61 : decode cX4_cut 61 = .ok (.isub, 1) := by decide +kernel
theorem dX4_cut_62 : decode cX4_cut 62 = .ok (.iastore, 1) := by decide +kernel
theorem dX4_cut_63 : decode cX4_cut 63 = .ok (.iconst 0, 1) := by decide +kernel
theorem dX4_cut_64 : decode cX4_cut 64 = .ok (.istore_n 2, 1) := by decide +kernel
theorem dX4_cut_65 : decode cX4_cut 65 = .ok (.iload_n 2, 1) := by decide +kernel
theorem dX4_cut_66 : decode cX4_cut 66 = .ok (.iconst 3, 1) := by decide +kernel
theorem dX4_cut_67 : decode cX4_cut 67 = .ok (.if_icmp .ge 48, 3) := by decide +kernel
theorem dX4_cut_70 : decode cX4_cut 70 = .ok (.aload_n 0, 1) := by decide +kernel
theorem dX4_cut_71 : decode cX4_cut 71 = .ok (.getfield 29, 3) := by decide +kernel
theorem dX4_cut_74 : decode cX4_cut 74 = .ok (.iconst 3, 1) := by decide +kernel
theorem dX4_cut_75 : decode cX4_cut 75 = .ok (.aload_n 0, 1) := by decide +kernel
theorem dX4_cut_76 : decode cX4_cut 76 = .ok (.getfield 51, 3) := by decide +kernel
theorem dX4_cut_79 : decode cX4_cut 79 = .ok (.imul, 1) := by decide +kernel
theorem dX4_cut_80 : decode cX4_cut 80 = .ok (.iload_n 2, 1) := by decide +kernel
theorem dX4_cut_81 : decode cX4_cut 81 = .ok (.iadd, 1) := by decide +kernel
theorem dX4_cut_82 : decode cX4_cut 82 = .ok (.aload_n 0, 1) := by decide +kernel
theorem dX4_cut_83 : decode cX4_cut 83 = .ok (.getfield 26, 3) := by decide +kernel
theorem dX4_cut_86 : decode cX4_cut 86 = .ok (.iconst 3, 1) := by decide +kernel
theorem dX4_cut_87 : decode cX4_cut 87 = .ok (.iload_n 1, 1) := by decide +kernel
theorem dX4_cut_88 : decode cX4_cut 88 = .ok (.imul, 1) := by decide +kernel
theorem dX4_cut_89 : decode cX4_cut 89 = .ok (.iload_n 2, 1) := by decide +kernel
theorem dX4_cut_90 : decode cX4_cut 90 = .ok (.iadd, 1) := by decide +kernel
theorem dX4_cut_91 : decode cX4_cut 91 = .ok (.iaload, 1) := by decide +kernel
theorem dX4_cut_92 : decode cX4_cut 92 = .ok (.aload_n 0, 1) := by decide +kernel
theorem dX4_cut_93 : decode cX4_cut 93 = .ok (.getfield 17, 3) := by decide +kernel
theorem dX4_cut_96 : decode cX4_cut 96 = .ok (.iload_n 1, 1) := by decide +kernel
theorem dX4_cut_97 : decode cX4_cut 97 = .ok (.iaload, 1) := by decide +kernel
theorem dX4_cut_98 : decode cX4_cut 98 = .ok (.aload_n 0, 1) := by decide +kernel
theorem dX4_cut_99 : decode cX4_cut 99 = .ok (.getfield 13, 3) := by decide +kernel
theorem dX4_cut_102 : decode cX4_cut 102 = .ok (.iload_n 1, 1) := by decide +kernel
theorem dX4_cut_103 : decode cX4_cut 103 = .ok (.iaload, 1) := by decide +kernel
theorem dX4_cut_104 : decode cX4_cut 104 = .ok (.imul, 1) := by decide +kernel
theorem dX4_cut_105 : decode cX4_cut 105 = .ok (.invokestatic 64, 3) := by decide +kernel
theorem dX4_cut_108 : decode cX4_cut 108 = .ok (.iastore, 1) := by decide +kernel
theorem dX4_cut_109 : decode cX4_cut 109 = .ok (.iinc 2 1, 3) := by decide +kernel
theorem dX4_cut_112 : decode cX4_cut 112 = .ok (.goto (-47), 3) := by decide +kernel
theorem dX4_cut_115 : decode cX4_cut 115 = .ok (.aload_n 0, 1) := by decide +kernel
theorem dX4_cut_116 : decode cX4_cut 116 = .ok (.getfield 32, 3) := by decide +kernel
theorem dX4_cut_119 : decode cX4_cut 119 = .ok (.aload_n 0, 1) := by decide +kernel
theorem dX4_cut_120 : decode cX4_cut 120 = .ok (.getfield 51, 3) := by decide +kernel
theorem dX4_cut_123 : decode cX4_cut 123 = .ok (.iconst (-1), 1) := by decide +kernel
theorem dX4_cut_124 : decode cX4_cut 124 = .ok (.iastore, 1) := by decide +kernel
theorem dX4_cut_125 : decode cX4_cut 125 = .ok (.aload_n 0, 1) := by decide +kernel
theorem dX4_cut_126 : decode cX4_cut 126 = .ok (.dup, 1) := by decide +kernel
theorem dX4_cut_127 : decode cX4_cut 127 = .ok (.getfield 51, 3) := by decide +kernel
theorem dX4_cut_130 : decode cX4_cut 130 = .ok (.iconst 1, 1) := by decide +kernel
theorem dX4_cut_131 : decode cX4_cut 131 = .ok (.iadd, 1) := by decide +kernel
theorem dX4_cut_132 : decode cX4_cut 132 = .ok (.putfield 51, 3) := by decide +kernel
theorem dX4_cut_135 : decode cX4_cut 135 = .ok (.aload_n 0, 1) := by decide +kernel
theorem dX4_cut_136 : decode cX4_cut 136 = .ok (.getfield 51, 3) := by decide +kernel
theorem dX4_cut_139 : decode cX4_cut 139 = .ok (.iconst 1, 1) := by decide +kernel
theorem dX4_cut_140 : decode cX4_cut 140 = .ok (.isub, 1) := by decide +kernel
theorem dX4_cut_141 : decode cX4_cut 141 = .ok (.ireturn, 1) := by decide +kernel
theorem dX4_caneTold_0 : decode cX4_caneTold 0 = .ok (.iconst 5, 1) := by decide +kernel
theorem dX4_caneTold_1 : decode cX4_caneTold 1 = .ok (.newarray .int, 2) := by decide +kernel
theorem dX4_caneTold_3 : decode cX4_caneTold 3 = .ok (.dup, 1) := by decide +kernel
theorem dX4_caneTold_4 : decode cX4_caneTold 4 = .ok (.iconst 0, 1) := by decide +kernel
theorem dX4_caneTold_5 : decode cX4_caneTold 5 = .ok (.aload_n 0, 1) := by decide +kernel
theorem dX4_caneTold_6 : decode cX4_caneTold 6 = .ok (.getfield 13, 3) := by decide +kernel
theorem dX4_caneTold_9 : decode cX4_caneTold 9 = .ok (.iload_n 1, 1) := by decide +kernel
theorem dX4_caneTold_10 : decode cX4_caneTold 10 = .ok (.iaload, 1) := by decide +kernel
theorem dX4_caneTold_11 : decode cX4_caneTold 11 = .ok (.iastore, 1) := by decide +kernel
theorem dX4_caneTold_12 : decode cX4_caneTold 12 = .ok (.dup, 1) := by decide +kernel
theorem dX4_caneTold_13 : decode cX4_caneTold 13 = .ok (.iconst 1, 1) := by decide +kernel
theorem dX4_caneTold_14 : decode cX4_caneTold 14 = .ok (.aload_n 0, 1) := by decide +kernel
theorem dX4_caneTold_15 : decode cX4_caneTold 15 = .ok (.getfield 17, 3) := by decide +kernel
theorem dX4_caneTold_18 : decode cX4_caneTold 18 = .ok (.iload_n 1, 1) := by decide +kernel
theorem dX4_caneTold_19 : decode cX4_caneTold 19 = .ok (.iaload, 1) := by decide +kernel
theorem dX4_caneTold_20 : decode cX4_caneTold 20 = .ok (.iastore, 1) := by decide +kernel
theorem dX4_caneTold_21 : decode cX4_caneTold 21 = .ok (.dup, 1) := by decide +kernel
theorem dX4_caneTold_22 : decode cX4_caneTold 22 = .ok (.iconst 2, 1) := by decide +kernel
theorem dX4_caneTold_23 : decode cX4_caneTold 23 = .ok (.aload_n 0, 1) := by decide +kernel
theorem dX4_caneTold_24 : decode cX4_caneTold 24 = .ok (.getfield 20, 3) := by decide +kernel
theorem dX4_caneTold_27 : decode cX4_caneTold 27 = .ok (.iload_n 1, 1) := by decide +kernel
theorem dX4_caneTold_28 : decode cX4_caneTold 28 = .ok (.iaload, 1) := by decide +kernel
theorem dX4_caneTold_29 : decode cX4_caneTold 29 = .ok (.iastore, 1) := by decide +kernel
theorem dX4_caneTold_30 : decode cX4_caneTold 30 = .ok (.dup, 1) := by decide +kernel
theorem dX4_caneTold_31 : decode cX4_caneTold 31 = .ok (.iconst 3, 1) := by decide +kernel
theorem dX4_caneTold_32 : decode cX4_caneTold 32 = .ok (.aload_n 0, 1) := by decide +kernel
theorem dX4_caneTold_33 : decode cX4_caneTold 33 = .ok (.getfield 23, 3) := by decide +kernel
theorem dX4_caneTold_36 : decode cX4_caneTold 36 = .ok (.iload_n 1, 1) := by decide +kernel
theorem dX4_caneTold_37 : decode cX4_caneTold 37 = .ok (.iaload, 1) := by decide +kernel
theorem dX4_caneTold_38 : decode cX4_caneTold 38 = .ok (.iastore, 1) := by decide +kernel
theorem dX4_caneTold_39 : decode cX4_caneTold 39 = .ok (.dup, 1) := by decide +kernel
theorem dX4_caneTold_40 : decode cX4_caneTold 40 = .ok (.iconst 4, 1) := by decide +kernel
theorem dX4_caneTold_41 : decode cX4_caneTold 41 = .ok (.iload_n 1, 1) := by decide +kernel
theorem dX4_caneTold_42 : decode cX4_caneTold 42 = .ok (.aload_n 0, 1) := by decide +kernel
theorem dX4_caneTold_43 : decode cX4_caneTold 43 = .ok (.getfield 9, 3) := by decide +kernel
theorem dX4_caneTold_46 : decode cX4_caneTold 46 = .ok (.if_icmp .ne 7, 3) := by decide +kernel
theorem dX4_caneTold_49 : decode cX4_caneTold 49 = .ok (.iconst 1, 1) := by decide +kernel
theorem dX4_caneTold_50 : decode cX4_caneTold 50 = .ok (.goto 4, 3) := by decide +kernel
theorem dX4_caneTold_53 : decode cX4_caneTold 53 = .ok (.iconst 0, 1) := by decide +kernel
theorem dX4_caneTold_54 : decode cX4_caneTold 54 = .ok (.iastore, 1) := by decide +kernel
theorem dX4_caneTold_55 : decode cX4_caneTold 55 = .ok (.astore_n 3, 1) := by decide +kernel
theorem dX4_caneTold_56 : decode cX4_caneTold 56 = .ok (.aload_n 3, 1) := by decide +kernel
theorem dX4_caneTold_57 : decode cX4_caneTold 57 = .ok (.iload_n 2, 1) := by decide +kernel
theorem dX4_caneTold_58 : decode cX4_caneTold 58 = .ok (.iaload, 1) := by decide +kernel
theorem dX4_caneTold_59 : decode cX4_caneTold 59 = .ok (.ireturn, 1) := by decide +kernel
set_option maxRecDepth 20000 in
theorem ggX4_cane_X4_isCane : GoodIn wsX4_cane wsX4_isCane := goodIn_r _ [6, 7, 8, 9, 5, 10, 25, 26, 27, 28, 29, 30, 31, 32, 33, 34, 35, 36, 37, 38, 39] (by decide +kernel) (by decide +kernel)
set_option maxRecDepth 20000 in
theorem gX4_cane_X4_isCane : GoodIn wsX4_cane (wsV RX4 83 RX4 yX4_isCane wsX4_isCane) := goodIn_app (goodIn_of _ (by decide +kernel)) ggX4_cane_X4_isCane
set_option maxRecDepth 20000 in
theorem ggX4_cane_X4_isIn : GoodIn wsX4_cane wsX4_isIn := goodIn_r _ [10] (by decide +kernel) (by decide +kernel)
set_option maxRecDepth 20000 in
theorem gX4_cane_X4_isIn : GoodIn wsX4_cane (va_wsS RX4 47 yX4_isIn wsX4_isIn) := goodIn_app (goodIn_of _ (by decide +kernel)) ggX4_cane_X4_isIn
set_option maxRecDepth 20000 in
theorem ggX4_cane_X4_caneTold : GoodIn wsX4_cane wsX4_caneTold := goodIn_r _ [14, 15, 16, 17, 18, 19, 20, 25, 26, 27, 28, 29, 30, 31, 32, 33, 34, 35, 36, 37, 38, 39] (by decide +kernel) (by decide +kernel)
set_option maxRecDepth 20000 in
theorem gX4_cane_X4_caneTold : GoodIn wsX4_cane (wsV RX4 98 RX4 yX4_caneTold wsX4_caneTold) := goodIn_app (goodIn_of _ (by decide +kernel)) ggX4_cane_X4_caneTold
set_option maxRecDepth 20000 in
theorem ggX4_cane_X4_no : GoodIn wsX4_cane wsX4_no := goodIn_r _ [24, 1, 25, 26, 27, 28, 29, 30, 31, 32, 33, 34, 35, 36, 37, 38, 39] (by decide +kernel) (by decide +kernel)
set_option maxRecDepth 20000 in
theorem gX4_cane_X4_no : GoodIn wsX4_cane (wsV RX4 67 RX4 yX4_no wsX4_no) := goodIn_app (goodIn_of _ (by decide +kernel)) ggX4_cane_X4_no
theorem dX4_cane_0 : decode cX4_cane 0 = .ok (.aload_n 0, 1) := by decide +kernel
theorem dX4_cane_1 : decode cX4_cane 1 = .ok (.iconst 0, 1) := by decide +kernel
theorem dX4_cane_2 : decode cX4_cane 2 = .ok (.putfield 41, 3) := by decide +kernel
theorem dX4_cane_5 : decode cX4_cane 5 = .ok (.aload_n 0, 1) := by decide +kernel
theorem dX4_cane_6 : decode cX4_cane 6 = .ok (.iload_n 1, 1) := by decide +kernel
theorem dX4_cane_7 : decode cX4_cane 7 = .ok (.invokevirtual 83, 3) := by decide +kernel
theorem dX4_cane_10 : decode cX4_cane 10 = .ok (.ifCond .eq 21, 3) := by decide +kernel
theorem dX4_cane_13 : decode cX4_cane 13 = .ok (.iload_n 2, 1) := by decide +kernel
theorem dX4_cane_14 : decode cX4_cane 14 = .ok (.iconst 0, 1) := by decide +kernel
theorem dX4_cane_15 : decode cX4_cane 15 = .ok (.iconst 4, 1) := by decide +kernel
theorem dX4_cane_16 : decode cX4_cane 16 = .ok (.invokestatic 47, 3) := by decide +kernel
theorem dX4_cane_19 : decode cX4_cane 19 = .ok (.ifCond .eq 12, 3) := by decide +kernel
theorem dX4_cane_22 : decode cX4_cane 22 = .ok (.aload_n 0, 1) := by decide +kernel
theorem dX4_cane_23 : decode cX4_cane 23 = .ok (.iload_n 1, 1) := by decide +kernel
theorem dX4_cane_24 : decode cX4_cane 24 = .ok (.iload_n 2, 1) := by decide +kernel
theorem dX4_cane_25 : decode cX4_cane 25 = .ok (.invokevirtual 98, 3) := by decide +kernel
theorem dX4_cane_28 : decode cX4_cane 28 = .ok (.goto 8, 3) := by decide +kernel
theorem dX4_cane_31 : decode cX4_cane 31 = .ok (.aload_n 0, 1) := by decide +kernel
theorem dX4_cane_32 : decode cX4_cane 32 = .ok (.iconst 1, 1) := by decide +kernel
theorem dX4_cane_33 : decode cX4_cane 33 = .ok (.invokevirtual 67, 3) := by decide +kernel
theorem dX4_cane_36 : decode cX4_cane 36 = .ok (.ireturn, 1) := by decide +kernel
set_option maxRecDepth 20000 in
theorem ggX4_shows_X4_isCane : GoodIn wsX4_shows wsX4_isCane := goodIn_r _ [9, 10, 11, 12, 8, 13, 32, 33, 34, 35, 36, 37, 38, 39, 40, 41, 42, 43, 44, 45, 46] (by decide +kernel) (by decide +kernel)
set_option maxRecDepth 20000 in
theorem gX4_shows_X4_isCane : GoodIn wsX4_shows (wsV RX4 83 RX4 yX4_isCane wsX4_isCane) := goodIn_app (goodIn_of _ (by decide +kernel)) ggX4_shows_X4_isCane
set_option maxRecDepth 20000 in
theorem ggX4_shows_X4_isIn : GoodIn wsX4_shows wsX4_isIn := goodIn_r _ [13] (by decide +kernel) (by decide +kernel)
set_option maxRecDepth 20000 in
theorem gX4_shows_X4_isIn : GoodIn wsX4_shows (va_wsS RX4 47 yX4_isIn wsX4_isIn) := goodIn_app (goodIn_of _ (by decide +kernel)) ggX4_shows_X4_isIn
set_option maxRecDepth 20000 in
theorem ggX4_shows_X4_isSpot : GoodIn wsX4_shows wsX4_isSpot := goodIn_r _ [16, 11, 12, 8, 13] (by decide +kernel) (by decide +kernel)
set_option maxRecDepth 20000 in
theorem gX4_shows_X4_isSpot : GoodIn wsX4_shows (va_wsS RX4 87 yX4_isSpot wsX4_isSpot) := goodIn_app (goodIn_of _ (by decide +kernel)) ggX4_shows_X4_isSpot
set_option maxRecDepth 20000 in
theorem ggX4_shows_X4_no : GoodIn wsX4_shows wsX4_no := goodIn_r _ [20, 1, 32, 33, 34, 35, 36, 37, 38, 39, 40, 41, 42, 43, 44, 45, 46] (by decide +kernel) (by decide +kernel)
set_option maxRecDepth 20000 in
theorem gX4_shows_X4_no : GoodIn wsX4_shows (wsV RX4 67 RX4 yX4_no wsX4_no) := goodIn_app (goodIn_of _ (by decide +kernel)) ggX4_shows_X4_no
set_option maxRecDepth 20000 in
theorem ggX4_shows_X4_rotated : GoodIn wsX4_shows wsX4_rotated := goodIn_r _ [23, 24, 25, 26, 27, 28] (by decide +kernel) (by decide +kernel)
set_option maxRecDepth 20000 in
theorem gX4_shows_X4_rotated : GoodIn wsX4_shows (va_wsS RX4 64 yX4_rotated wsX4_rotated) := goodIn_app (goodIn_of _ (by decide +kernel)) ggX4_shows_X4_rotated
set_option maxRecDepth 20000 in
theorem ggX4_shows_X4_colourOf : GoodIn wsX4_shows wsX4_colourOf := goodIn_r _ [31] (by decide +kernel) (by decide +kernel)
set_option maxRecDepth 20000 in
theorem gX4_shows_X4_colourOf : GoodIn wsX4_shows (va_wsS RX4 101 yX4_colourOf wsX4_colourOf) := goodIn_app (goodIn_of _ (by decide +kernel)) ggX4_shows_X4_colourOf
theorem dX4_shows_0 : decode cX4_shows 0 = .ok (.aload_n 0, 1) := by decide +kernel
theorem dX4_shows_1 : decode cX4_shows 1 = .ok (.iconst 0, 1) := by decide +kernel
theorem dX4_shows_2 : decode cX4_shows 2 = .ok (.putfield 41, 3) := by decide +kernel
theorem dX4_shows_5 : decode cX4_shows 5 = .ok (.aload_n 0, 1) := by decide +kernel
theorem dX4_shows_6 : decode cX4_shows 6 = .ok (.iload_n 1, 1) := by decide +kernel
theorem dX4_shows_7 : decode cX4_shows 7 = .ok (.invokevirtual 83, 3) := by decide +kernel
theorem dX4_shows_10 : decode cX4_shows 10 = .ok (.ifCond .eq 28, 3) := by decide +kernel
theorem dX4_shows_13 : decode cX4_shows 13 = .ok (.iload_n 2, 1) := by decide +kernel
theorem dX4_shows_14 : decode cX4_shows 14 = .ok (.iconst 0, 1) := by decide +kernel
theorem dX4_shows_15 : decode cX4_shows 15 = .ok (.aload_n 0, 1) := by decide +kernel
theorem dX4_shows_16 : decode cX4_shows 16 = .ok (.getfield 13, 3) := by decide +kernel
theorem dX4_shows_19 : decode cX4_shows 19 = .ok (.iload_n 1, 1) := by decide +kernel
theorem dX4_shows_20 : decode cX4_shows 20 = .ok (.iaload, 1) := by decide +kernel
theorem dX4_shows_21 : decode cX4_shows 21 = .ok (.iconst 1, 1) := by decide +kernel
theorem dX4_shows_22 : decode cX4_shows 22 = .ok (.isub, 1) := by decide +kernel
theorem dX4_shows_23 : decode cX4_shows 23 = .ok (.invokestatic 47, 3) := by decide +kernel
