set_option maxRecDepth 20000 in
theorem ggX0_init_X1_init : GoodIn wsX0_init wsX1_init := goodIn_r _ [12, 13, 2, 3, 14, 15, 16] (by decide +kernel) (by decide +kernel)
set_option maxRecDepth 20000 in
theorem gX0_init_X1_init : GoodIn wsX0_init (wsX1_init) := ggX0_init_X1_init
theorem dX0_init_0 : decode cX0_init 0 = .ok (.aload_n 0, 1) := by decide +kernel
theorem dX0_init_1 : decode cX0_init 1 = .ok (.invokespecial 3, 3) := by decide +kernel
theorem dX0_init_4 : decode cX0_init 4 = .ok (.aload_n 0, 1) := by decide +kernel
theorem dX0_init_5 : decode cX0_init 5 = .ok (.new 9, 3) := by decide +kernel
theorem dX0_init_8 : decode cX0_init 8 = .ok (.dup, 1) := by decide +kernel
theorem dX0_init_9 : decode cX0_init 9 = .ok (.invokespecial 11, 3) := by decide +kernel
theorem dX0_init_12 : decode cX0_init 12 = .ok (.putfield 12, 3) := by decide +kernel
theorem dX0_init_15 : decode cX0_init 15 = .ok (.aload_n 0, 1) := by decide +kernel
theorem dX0_init_16 : decode cX0_init 16 = .ok (.bipush 8, 2) := by decide +kernel
theorem dX0_init_18 : decode cX0_init 18 = .ok (.putfield 18, 3) := by decide +kernel
theorem dX0_init_21 : decode cX0_init 21 = .ok (.aload_n 0, 1) := by decide +kernel
theorem dX0_init_22 : decode cX0_init 22 = .ok (.bipush 10, 2) := by decide +kernel
theorem dX0_init_24 : decode cX0_init 24 = .ok (.putfield 22, 3) := by decide +kernel
theorem dX0_init_27 : decode cX0_init 27 = .ok (.return_, 1) := by decide +kernel
theorem dX0_hasPlace_0 : decode cX0_hasPlace 0 = .ok (.iload_n 1, 1) := by decide +kernel
theorem dX0_hasPlace_1 : decode cX0_hasPlace 1 = .ok (.ifCond .lt 15, 3) := by decide +kernel
theorem dX0_hasPlace_4 : decode cX0_hasPlace 4 = .ok (.iload_n 1, 1) := by decide +kernel
theorem dX0_hasPlace_5 : decode cX0_hasPlace 5 = .ok (.aload_n 0, 1) := by decide +kernel
theorem dX0_hasPlace_6 : decode cX0_hasPlace 6 = .ok (.getfield 18, 3) := by decide +kernel
theorem dX0_hasPlace_9 : decode cX0_hasPlace 9 = .ok (.if_icmp .ge 7, 3) := by decide +kernel
theorem dX0_hasPlace_12 : decode cX0_hasPlace 12 = .ok (.iconst 1, 1) := by decide +kernel
theorem dX0_hasPlace_13 : decode cX0_hasPlace 13 = .ok (.goto 4, 3) := by decide +kernel
theorem dX0_hasPlace_16 : decode cX0_hasPlace 16 = .ok (.iconst 0, 1) := by decide +kernel
theorem dX0_hasPlace_17 : decode cX0_hasPlace 17 = .ok (.ireturn, 1) := by decide +kernel
theorem dX0_turnAt_0 : decode cX0_turnAt 0 = .ok (.aload_n 0, 1) := by decide +kernel
theorem dX0_turnAt_1 : decode cX0_turnAt 1 = .ok (.getfield 25, 3) := by decide +kernel
theorem dX0_turnAt_4 : decode cX0_turnAt 4 = .ok (.iload_n 1, 1) := by decide +kernel
theorem dX0_turnAt_5 : decode cX0_turnAt 5 = .ok (.imul, 1) := by decide +kernel
theorem dX0_turnAt_6 : decode cX0_turnAt 6 = .ok (.ireturn, 1) := by decide +kernel
theorem dX0_startWorking_0 : decode cX0_startWorking 0 = .ok (.aload_n 0, 1) := by decide +kernel
theorem dX0_startWorking_1 : decode cX0_startWorking 1 = .ok (.getfield 22, 3) := by decide +kernel
theorem dX0_startWorking_4 : decode cX0_startWorking 4 = .ok (.iload_n 1, 1) := by decide +kernel
theorem dX0_startWorking_5 : decode cX0_startWorking 5 = .ok (.if_icmp .ge 10, 3) := by decide +kernel
theorem dX0_startWorking_8 : decode cX0_startWorking 8 = .ok (.aload_n 0, 1) := by decide +kernel
theorem dX0_startWorking_9 : decode cX0_startWorking 9 = .ok (.iconst 1, 1) := by decide +kernel
theorem dX0_startWorking_10 : decode cX0_startWorking 10 = .ok (.putfield 28, 3) := by decide +kernel
theorem dX0_startWorking_13 : decode cX0_startWorking 13 = .ok (.iconst 0, 1) := by decide +kernel
theorem dX0_startWorking_14 : decode cX0_startWorking 14 = .ok (.ireturn, 1) := by decide +kernel
theorem dX0_startWorking_15 : decode cX0_startWorking 15 = .ok (.aload_n 0, 1) := by decide +kernel
theorem dX0_startWorking_16 : decode cX0_startWorking 16 = .ok (.dup, 1) := by decide +kernel
theorem dX0_startWorking_17 : decode cX0_startWorking 17 = .ok (.getfield 22, 3) := by decide +kernel
theorem dX0_startWorking_20 : decode cX0_startWorking 20 = .ok (.iconst 1, 1) := by decide +kernel
theorem dX0_startWorking_21 : decode cX0_startWorking 21 = .ok (.isub, 1) := by decide +kernel
theorem dX0_startWorking_22 : decode cX0_startWorking 22 = .ok (.putfield 22, 3) := by decide +kernel
theorem dX0_startWorking_25 : decode cX0_startWorking 25 = .ok (.iconst 1, 1) := by decide +kernel
theorem dX0_startWorking_26 : decode cX0_startWorking 26 = .ok (.ireturn, 1) := by decide +kernel
theorem dX0_stretch_0 : decode cX0_stretch 0 = .ok (.aload_n 0, 1) := by decide +kernel
theorem dX0_stretch_1 : decode cX0_stretch 1 = .ok (.iconst 2, 1) := by decide +kernel
theorem dX0_stretch_2 : decode cX0_stretch 2 = .ok (.aload_n 0, 1) := by decide +kernel
theorem dX0_stretch_3 : decode cX0_stretch 3 = .ok (.getfield 18, 3) := by decide +kernel
theorem dX0_stretch_6 : decode cX0_stretch 6 = .ok (.imul, 1) := by decide +kernel
theorem dX0_stretch_7 : decode cX0_stretch 7 = .ok (.bipush 60, 2) := by decide +kernel
theorem dX0_stretch_9 : decode cX0_stretch 9 = .ok (.invokestatic 32, 3) := by decide +kernel
theorem dX0_stretch_12 : decode cX0_stretch 12 = .ok (.putfield 18, 3) := by decide +kernel
theorem dX0_stretch_15 : decode cX0_stretch 15 = .ok (.aload_n 0, 1) := by decide +kernel
theorem dX0_stretch_16 : decode cX0_stretch 16 = .ok (.aload_n 0, 1) := by decide +kernel
theorem dX0_stretch_17 : decode cX0_stretch 17 = .ok (.getfield 25, 3) := by decide +kernel
theorem dX0_stretch_20 : decode cX0_stretch 20 = .ok (.iconst 2, 1) := by decide +kernel
theorem dX0_stretch_21 : decode cX0_stretch 21 = .ok (.idiv, 1) := by decide +kernel
theorem dX0_stretch_22 : decode cX0_stretch 22 = .ok (.putfield 25, 3) := by decide +kernel
theorem dX0_stretch_25 : decode cX0_stretch 25 = .ok (.return_, 1) := by decide +kernel
theorem dX0_passMinute_0 : decode cX0_passMinute 0 = .ok (.aload_n 0, 1) := by decide +kernel
theorem dX0_passMinute_1 : decode cX0_passMinute 1 = .ok (.iload_n 1, 1) := by decide +kernel
theorem dX0_passMinute_2 : decode cX0_passMinute 2 = .ok (.ifCond .eq 17, 3) := by decide +kernel
theorem dX0_passMinute_5 : decode cX0_passMinute 5 = .ok (.aload_n 0, 1) := by decide +kernel
theorem dX0_passMinute_6 : decode cX0_passMinute 6 = .ok (.getfield 22, 3) := by decide +kernel
theorem dX0_passMinute_9 : decode cX0_passMinute 9 = .ok (.iconst 3, 1) := by decide +kernel
theorem dX0_passMinute_10 : decode cX0_passMinute 10 = .ok (.iadd, 1) := by decide +kernel
theorem dX0_passMinute_11 : decode cX0_passMinute 11 = .ok (.bipush 10, 2) := by decide +kernel
theorem dX0_passMinute_13 : decode cX0_passMinute 13 = .ok (.invokestatic 32, 3) := by decide +kernel
theorem dX0_passMinute_16 : decode cX0_passMinute 16 = .ok (.goto 13, 3) := by decide +kernel
theorem dX0_passMinute_19 : decode cX0_passMinute 19 = .ok (.aload_n 0, 1) := by decide +kernel
theorem dX0_passMinute_20 : decode cX0_passMinute 20 = .ok (.getfield 22, 3) := by decide +kernel
theorem dX0_passMinute_23 : decode cX0_passMinute 23 = .ok (.iconst 1, 1) := by decide +kernel
theorem dX0_passMinute_24 : decode cX0_passMinute 24 = .ok (.isub, 1) := by decide +kernel
theorem dX0_passMinute_25 : decode cX0_passMinute 25 = .ok (.iconst 0, 1) := by decide +kernel
theorem dX0_passMinute_26 : decode cX0_passMinute 26 = .ok (.invokestatic 38, 3) := by decide +kernel
theorem dX0_passMinute_29 : decode cX0_passMinute 29 = .ok (.putfield 22, 3) := by decide +kernel
theorem dX0_passMinute_32 : decode cX0_passMinute 32 = .ok (.return_, 1) := by decide +kernel
theorem dX0_tell_0 : decode cX0_tell 0 = .ok (.iload_n 1, 1) := by decide +kernel
theorem dX0_tell_1 : decode cX0_tell 1 = .ok (.tableswitch 59 0 3 #[31, 36, 41, 46], 31) := by decide +kernel
theorem dX0_tell_32 : decode cX0_tell 32 = .ok (.aload_n 0, 1) := by decide +kernel
theorem dX0_tell_33 : decode cX0_tell 33 = .ok (.getfield 18, 3) := by decide +kernel
theorem dX0_tell_36 : decode cX0_tell 36 = .ok (.ireturn, 1) := by decide +kernel
theorem dX0_tell_37 : decode cX0_tell 37 = .ok (.aload_n 0, 1) := by decide +kernel
theorem dX0_tell_38 : decode cX0_tell 38 = .ok (.getfield 25, 3) := by decide +kernel
theorem dX0_tell_41 : decode cX0_tell 41 = .ok (.ireturn, 1) := by decide +kernel
theorem dX0_tell_42 : decode cX0_tell 42 = .ok (.aload_n 0, 1) := by decide +kernel
theorem dX0_tell_43 : decode cX0_tell 43 = .ok (.getfield 22, 3) := by decide +kernel
theorem dX0_tell_46 : decode cX0_tell 46 = .ok (.ireturn, 1) := by decide +kernel
theorem dX0_tell_47 : decode cX0_tell 47 = .ok (.aload_n 0, 1) := by decide +kernel
theorem dX0_tell_48 : decode cX0_tell 48 = .ok (.getfield 28, 3) := by decide +kernel
theorem dX0_tell_51 : decode cX0_tell 51 = .ok (.ifCond .eq 7, 3) := by decide +kernel
theorem dX0_tell_54 : decode cX0_tell 54 = .ok (.iconst 0, 1) := by decide +kernel
theorem dX0_tell_55 : decode cX0_tell 55 = .ok (.goto 4, 3) := by decide +kernel
theorem dX0_tell_58 : decode cX0_tell 58 = .ok (.iconst 1, 1) := by decide +kernel
theorem dX0_tell_59 : decode cX0_tell 59 = .ok (.ireturn, 1) := by decide +kernel
theorem dX0_tell_60 : decode cX0_tell 60 = .ok (.iload_n 2, 1) := by decide +kernel
theorem dX0_tell_61 : decode cX0_tell 61 = .ok (.ifCond .eq 7, 3) := by decide +kernel
theorem dX0_tell_64 : decode cX0_tell 64 = .ok (.iconst 1, 1) := by decide +kernel
theorem dX0_tell_65 : decode cX0_tell 65 = .ok (.goto 4, 3) := by decide +kernel
theorem dX0_tell_68 : decode cX0_tell 68 = .ok (.iconst 0, 1) := by decide +kernel
theorem dX0_tell_69 : decode cX0_tell 69 = .ok (.ireturn, 1) := by decide +kernel
theorem dX1_init_0 : decode cX1_init 0 = .ok (.aload_n 0, 1) := by decide +kernel
theorem dX1_init_1 : decode cX1_init 1 = .ok (.invokespecial 3, 3) := by decide +kernel
theorem dX1_init_4 : decode cX1_init 4 = .ok (.aload_n 0, 1) := by decide +kernel
theorem dX1_init_5 : decode cX1_init 5 = .ok (.bipush 24, 2) := by decide +kernel
theorem dX1_init_7 : decode cX1_init 7 = .ok (.newarray .int, 2) := by decide +kernel
theorem dX1_init_9 : decode cX1_init 9 = .ok (.putfield 9, 3) := by decide +kernel
theorem dX1_init_12 : decode cX1_init 12 = .ok (.return_, 1) := by decide +kernel
set_option maxRecDepth 20000 in
theorem ggX1_indexOf_J9_floorMod_7cf53 : GoodIn wsX1_indexOf wsJ9_floorMod_7cf53 := goodIn_r _ [4] (by decide +kernel) (by decide +kernel)
set_option maxRecDepth 20000 in
theorem gX1_indexOf_J9_floorMod_7cf53 : GoodIn wsX1_indexOf (va_wsS RX1 15 yJ9_floorMod_7cf53 wsJ9_floorMod_7cf53) := goodIn_app (goodIn_of _ (by decide +kernel)) ggX1_indexOf_J9_floorMod_7cf53
theorem dX1_indexOf_0 : decode cX1_indexOf 0 = .ok (.bipush 8, 2) := by decide +kernel
theorem dX1_indexOf_2 : decode cX1_indexOf 2 = .ok (.iload_n 0, 1) := by decide +kernel
theorem dX1_indexOf_3 : decode cX1_indexOf 3 = .ok (.imul, 1) := by decide +kernel
theorem dX1_indexOf_4 : decode cX1_indexOf 4 = .ok (.iload_n 1, 1) := by decide +kernel
theorem dX1_indexOf_5 : decode cX1_indexOf 5 = .ok (.bipush 8, 2) := by decide +kernel
theorem dX1_indexOf_7 : decode cX1_indexOf 7 = .ok (.invokestatic 15, 3) := by decide +kernel
theorem dX1_indexOf_10 : decode cX1_indexOf 10 = .ok (.iadd, 1) := by decide +kernel
theorem dX1_indexOf_11 : decode cX1_indexOf 11 = .ok (.ireturn, 1) := by decide +kernel
set_option maxRecDepth 20000 in
theorem ggX1_colourAt_X1_indexOf : GoodIn wsX1_colourAt wsX1_indexOf := goodIn_r _ [5, 6, 7, 8, 9] (by decide +kernel) (by decide +kernel)
set_option maxRecDepth 20000 in
theorem gX1_colourAt_X1_indexOf : GoodIn wsX1_colourAt (va_wsS RX1 21 yX1_indexOf wsX1_indexOf) := goodIn_app (goodIn_of _ (by decide +kernel)) ggX1_colourAt_X1_indexOf
theorem dX1_colourAt_0 : decode cX1_colourAt 0 = .ok (.aload_n 0, 1) := by decide +kernel
theorem dX1_colourAt_1 : decode cX1_colourAt 1 = .ok (.getfield 9, 3) := by decide +kernel
theorem dX1_colourAt_4 : decode cX1_colourAt 4 = .ok (.iload_n 1, 1) := by decide +kernel
theorem dX1_colourAt_5 : decode cX1_colourAt 5 = .ok (.iload_n 2, 1) := by decide +kernel
theorem dX1_colourAt_6 : decode cX1_colourAt 6 = .ok (.iload_n 3, 1) := by decide +kernel
theorem dX1_colourAt_7 : decode cX1_colourAt 7 = .ok (.isub, 1) := by decide +kernel
theorem dX1_colourAt_8 : decode cX1_colourAt 8 = .ok (.invokestatic 21, 3) := by decide +kernel
theorem dX1_colourAt_11 : decode cX1_colourAt 11 = .ok (.iaload, 1) := by decide +kernel
theorem dX1_colourAt_12 : decode cX1_colourAt 12 = .ok (.ireturn, 1) := by decide +kernel
set_option maxRecDepth 20000 in
theorem ggX1_paint_X1_indexOf : GoodIn wsX1_paint wsX1_indexOf := goodIn_r _ [5, 6, 7, 8, 9] (by decide +kernel) (by decide +kernel)
set_option maxRecDepth 20000 in
theorem gX1_paint_X1_indexOf : GoodIn wsX1_paint (va_wsS RX1 21 yX1_indexOf wsX1_indexOf) := goodIn_app (goodIn_of _ (by decide +kernel)) ggX1_paint_X1_indexOf
theorem dX1_paint_0 : decode cX1_paint 0 = .ok (.iconst 0, 1) := by decide +kernel
theorem dX1_paint_1 : decode cX1_paint 1 = .ok (.istore 5, 2) := by decide +kernel
theorem dX1_paint_3 : decode cX1_paint 3 = .ok (.iload 5, 2) := by decide +kernel
theorem dX1_paint_5 : decode cX1_paint 5 = .ok (.iload_n 3, 1) := by decide +kernel
theorem dX1_paint_6 : decode cX1_paint 6 = .ok (.if_icmp .ge 24, 3) := by decide +kernel
theorem dX1_paint_9 : decode cX1_paint 9 = .ok (.aload_n 0, 1) := by decide +kernel
theorem dX1_paint_10 : decode cX1_paint 10 = .ok (.getfield 9, 3) := by decide +kernel
theorem dX1_paint_13 : decode cX1_paint 13 = .ok (.iload_n 1, 1) := by decide +kernel
theorem dX1_paint_14 : decode cX1_paint 14 = .ok (.iload_n 2, 1) := by decide +kernel
theorem dX1_paint_15 : decode cX1_paint 15 = .ok (.iload 5, 2) := by decide +kernel
theorem dX1_paint_17 : decode cX1_paint 17 = .ok (.iadd, 1) := by decide +kernel
theorem dX1_paint_18 : decode cX1_paint 18 = .ok (.invokestatic 21, 3) := by decide +kernel
theorem dX1_paint_21 : decode cX1_paint 21 = .ok (.iload 4, 2) := by decide +kernel
theorem dX1_paint_23 : decode cX1_paint 23 = .ok (.iastore, 1) := by decide +kernel
theorem dX1_paint_24 : decode cX1_paint 24 = .ok (.iinc 5 1, 3) := by decide +kernel
theorem dX1_paint_27 : decode cX1_paint 27 = .ok (.goto (-24), 3) := by decide +kernel
theorem dX1_paint_30 : decode cX1_paint 30 = .ok (.return_, 1) := by decide +kernel
set_option maxRecDepth 20000 in
theorem ggX1_turned_X1_init : GoodIn wsX1_turned wsX1_init := goodIn_r _ [7, 8, 9, 10, 11, 4, 23] (by decide +kernel) (by decide +kernel)
set_option maxRecDepth 20000 in
theorem gX1_turned_X1_init : GoodIn wsX1_turned (wsX1_init) := ggX1_turned_X1_init
set_option maxRecDepth 20000 in
theorem ggX1_turned_X1_colourAt : GoodIn wsX1_turned wsX1_colourAt := goodIn_r _ [15, 4, 16, 17, 3, 18, 19, 20, 21, 22, 23] (by decide +kernel) (by decide +kernel)
set_option maxRecDepth 20000 in
theorem gX1_turned_X1_colourAt : GoodIn wsX1_turned (wsV RX1 25 RX1 yX1_colourAt wsX1_colourAt) := goodIn_app (goodIn_of _ (by decide +kernel)) ggX1_turned_X1_colourAt
theorem dX1_turned_0 : decode cX1_turned 0 = .ok (.new 10, 3) := by decide +kernel
theorem dX1_turned_3 : decode cX1_turned 3 = .ok (.dup, 1) := by decide +kernel
theorem dX1_turned_4 : decode cX1_turned 4 = .ok (.invokespecial 24, 3) := by decide +kernel
theorem dX1_turned_7 : decode cX1_turned 7 = .ok (.astore_n 2, 1) := by decide +kernel
theorem dX1_turned_8 : decode cX1_turned 8 = .ok (.iconst 0, 1) := by decide +kernel
theorem dX1_turned_9 : decode cX1_turned 9 = .ok (.istore_n 3, 1) := by decide +kernel
theorem dX1_turned_10 : decode cX1_turned 10 = .ok (.iload_n 3, 1) := by decide +kernel
theorem dX1_turned_11 : decode cX1_turned 11 = .ok (.iconst 3, 1) := by decide +kernel
theorem dX1_turned_12 : decode cX1_turned 12 = .ok (.if_icmp .ge 45, 3) := by decide +kernel
theorem dX1_turned_15 : decode cX1_turned 15 = .ok (.iconst 0, 1) := by decide +kernel
theorem dX1_turned_16 : decode cX1_turned 16 = .ok (.istore 4, 2) := by decide +kernel
theorem dX1_turned_18 : decode cX1_turned 18 = .ok (.iload 4, 2) := by decide +kernel
theorem dX1_turned_20 : decode cX1_turned 20 = .ok (.bipush 8, 2) := by decide +kernel
theorem dX1_turned_22 : decode cX1_turned 22 = .ok (.if_icmp .ge 29, 3) := by decide +kernel
theorem dX1_turned_25 : decode cX1_turned 25 = .ok (.aload_n 2, 1) := by decide +kernel
theorem dX1_turned_26 : decode cX1_turned 26 = .ok (.getfield 9, 3) := by decide +kernel
theorem dX1_turned_29 : decode cX1_turned 29 = .ok (.bipush 8, 2) := by decide +kernel
theorem dX1_turned_31 : decode cX1_turned 31 = .ok (.iload_n 3, 1) := by decide +kernel
theorem dX1_turned_32 : decode cX1_turned 32 = .ok (.imul, 1) := by decide +kernel
theorem dX1_turned_33 : decode cX1_turned 33 = .ok (.iload 4, 2) := by decide +kernel
theorem dX1_turned_35 : decode cX1_turned 35 = .ok (.iadd, 1) := by decide +kernel
theorem dX1_turned_36 : decode cX1_turned 36 = .ok (.aload_n 0, 1) := by decide +kernel
theorem dX1_turned_37 : decode cX1_turned 37 = .ok (.iload_n 3, 1) := by decide +kernel
theorem dX1_turned_38 : decode cX1_turned 38 = .ok (.iload 4, 2) := by decide +kernel
theorem dX1_turned_40 : decode cX1_turned 40 = .ok (.iload_n 1, 1) := by decide +kernel
theorem dX1_turned_41 : decode cX1_turned 41 = .ok (.invokevirtual 25, 3) := by decide +kernel
theorem dX1_turned_44 : decode cX1_turned 44 = .ok (.iastore, 1) := by decide +kernel
theorem dX1_turned_45 : decode cX1_turned 45 = .ok (.iinc 4 1, 3) := by decide +kernel
theorem dX1_turned_48 : decode cX1_turned 48 = .ok (.goto (-30), 3) := by decide +kernel
theorem dX1_turned_51 : decode cX1_turned 51 = .ok (.iinc 3 1, 3) := by decide +kernel
theorem dX1_turned_54 : decode cX1_turned 54 = .ok (.goto (-44), 3) := by decide +kernel
theorem dX1_turned_57 : decode cX1_turned 57 = .ok (.aload_n 2, 1) := by decide +kernel
theorem dX1_turned_58 : decode cX1_turned 58 = .ok (.areturn, 1) := by decide +kernel
set_option maxRecDepth 20000 in
theorem ggX1_looksLike_X1_colourAt : GoodIn wsX1_looksLike wsX1_colourAt := goodIn_r _ [6, 1, 7, 8, 5, 9, 10, 11, 12, 13, 14] (by decide +kernel) (by decide +kernel)
set_option maxRecDepth 20000 in
theorem gX1_looksLike_X1_colourAt : GoodIn wsX1_looksLike (wsV RX1 25 RX1 yX1_colourAt wsX1_colourAt) := goodIn_app (goodIn_of _ (by decide +kernel)) ggX1_looksLike_X1_colourAt
theorem dX1_looksLike_0 : decode cX1_looksLike 0 = .ok (.iconst 0, 1) := by decide +kernel
theorem dX1_looksLike_1 : decode cX1_looksLike 1 = .ok (.istore_n 3, 1) := by decide +kernel
theorem dX1_looksLike_2 : decode cX1_looksLike 2 = .ok (.iload_n 3, 1) := by decide +kernel
theorem dX1_looksLike_3 : decode cX1_looksLike 3 = .ok (.iconst 3, 1) := by decide +kernel
theorem dX1_looksLike_4 : decode cX1_looksLike 4 = .ok (.if_icmp .ge 50, 3) := by decide +kernel
theorem dX1_looksLike_7 : decode cX1_looksLike 7 = .ok (.iconst 0, 1) := by decide +kernel
theorem dX1_looksLike_8 : decode cX1_looksLike 8 = .ok (.istore 4, 2) := by decide +kernel
theorem dX1_looksLike_10 : decode cX1_looksLike 10 = .ok (.iload 4, 2) := by decide +kernel
theorem dX1_looksLike_12 : decode cX1_looksLike 12 = .ok (.bipush 8, 2) := by decide +kernel
theorem dX1_looksLike_14 : decode cX1_looksLike 14 = .ok (.if_icmp .ge 34, 3) := by decide +kernel
theorem dX1_looksLike_17 : decode cX1_looksLike 17 = .ok (.aload_n 0, 1) := by decide +kernel
theorem dX1_looksLike_18 : decode cX1_looksLike 18 = .ok (.iload_n 3, 1) := by decide +kernel
theorem dX1_looksLike_19 : decode cX1_looksLike 19 = .ok (.iload 4, 2) := by decide +kernel
theorem dX1_looksLike_21 : decode cX1_looksLike 21 = .ok (.iload_n 2, 1) := by decide +kernel
theorem dX1_looksLike_22 : decode cX1_looksLike 22 = .ok (.invokevirtual 25, 3) := by decide +kernel
theorem dX1_looksLike_25 : decode cX1_looksLike 25 = .ok (.aload_n 1, 1) := by decide +kernel
theorem dX1_looksLike_26 : decode cX1_looksLike 26 = .ok (.getfield 9, 3) := by decide +kernel
theorem dX1_looksLike_29 : decode cX1_looksLike 29 = .ok (.bipush 8, 2) := by decide +kernel
theorem dX1_looksLike_31 : decode cX1_looksLike 31 = .ok (.iload_n 3, 1) := by decide +kernel
theorem dX1_looksLike_32 : decode cX1_looksLike 32 = .ok (.imul, 1) := by decide +kernel
theorem dX1_looksLike_33 : decode cX1_looksLike 33 = .ok (.iload 4, 2) := by decide +kernel
theorem dX1_looksLike_35 : decode cX1_looksLike 35 = .ok (.iadd, 1) := by decide +kernel
theorem dX1_looksLike_36 : decode cX1_looksLike 36 = .ok (.iaload, 1) := by decide +kernel
theorem dX1_looksLike_37 : decode cX1_looksLike 37 = .ok (.if_icmp .eq 5, 3) := by decide +kernel
theorem dX1_looksLike_40 : decode cX1_looksLike 40 = .ok (.iconst 0, 1) := by decide +kernel
theorem dX1_looksLike_41 : decode cX1_looksLike 41 = .ok (.ireturn, 1) := by decide +kernel
theorem dX1_looksLike_42 : decode cX1_looksLike 42 = .ok (.iinc 4 1, 3) := by decide +kernel
theorem dX1_looksLike_45 : decode cX1_looksLike 45 = .ok (.goto (-35), 3) := by decide +kernel
theorem dX1_looksLike_48 : decode cX1_looksLike 48 = .ok (.iinc 3 1, 3) := by decide +kernel
theorem dX1_looksLike_51 : decode cX1_looksLike 51 = .ok (.goto (-49), 3) := by decide +kernel
theorem dX1_looksLike_54 : decode cX1_looksLike 54 = .ok (.iconst 1, 1) := by decide +kernel
theorem dX1_looksLike_55 : decode cX1_looksLike 55 = .ok (.ireturn, 1) := by decide +kernel
set_option maxRecDepth 20000 in
theorem ggX1_leastTurnTo_X1_looksLike : GoodIn wsX1_leastTurnTo wsX1_looksLike := goodIn_r _ [5, 6, 7, 8, 9, 4, 10, 11, 12, 13, 14, 15, 16, 17, 18] (by decide +kernel) (by decide +kernel)
set_option maxRecDepth 20000 in
theorem gX1_leastTurnTo_X1_looksLike : GoodIn wsX1_leastTurnTo (wsV RX1 29 RX1 yX1_looksLike wsX1_looksLike) := goodIn_app (goodIn_of _ (by decide +kernel)) ggX1_leastTurnTo_X1_looksLike
theorem dX1_leastTurnTo_0 : decode cX1_leastTurnTo 0 = .ok (.iconst 0, 1) := by decide +kernel
theorem dX1_leastTurnTo_1 : decode cX1_leastTurnTo 1 = .ok (.istore_n 2, 1) := by decide +kernel
theorem dX1_leastTurnTo_2 : decode cX1_leastTurnTo 2 = .ok (.iload_n 2, 1) := by decide +kernel
theorem dX1_leastTurnTo_3 : decode cX1_leastTurnTo 3 = .ok (.bipush 8, 2) := by decide +kernel
theorem dX1_leastTurnTo_5 : decode cX1_leastTurnTo 5 = .ok (.if_icmp .ge 20, 3) := by decide +kernel
theorem dX1_leastTurnTo_8 : decode cX1_leastTurnTo 8 = .ok (.aload_n 0, 1) := by decide +kernel
theorem dX1_leastTurnTo_9 : decode cX1_leastTurnTo 9 = .ok (.aload_n 1, 1) := by decide +kernel
theorem dX1_leastTurnTo_10 : decode cX1_leastTurnTo 10 = .ok (.iload_n 2, 1) := by decide +kernel
theorem dX1_leastTurnTo_11 : decode cX1_leastTurnTo 11 = .ok (.invokevirtual 29, 3) := by decide +kernel
theorem dX1_leastTurnTo_14 : decode cX1_leastTurnTo 14 = .ok (.ifCond .eq 5, 3) := by decide +kernel
theorem dX1_leastTurnTo_17 : decode cX1_leastTurnTo 17 = .ok (.iload_n 2, 1) := by decide +kernel
theorem dX1_leastTurnTo_18 : decode cX1_leastTurnTo 18 = .ok (.ireturn, 1) := by decide +kernel
theorem dX1_leastTurnTo_19 : decode cX1_leastTurnTo 19 = .ok (.iinc 2 1, 3) := by decide +kernel
theorem dX1_leastTurnTo_22 : decode cX1_leastTurnTo 22 = .ok (.goto (-20), 3) := by decide +kernel
theorem dX1_leastTurnTo_25 : decode cX1_leastTurnTo 25 = .ok (.iconst (-1), 1) := by decide +kernel
theorem dX1_leastTurnTo_26 : decode cX1_leastTurnTo 26 = .ok (.ireturn, 1) := by decide +kernel
theorem dX2_init_0 : decode cX2_init 0 = .ok (.aload_n 0, 1) := by decide +kernel
theorem dX2_init_1 : decode cX2_init 1 = .ok (.invokespecial 3, 3) := by decide +kernel
theorem dX2_init_4 : decode cX2_init 4 = .ok (.aload_n 0, 1) := by decide +kernel
theorem dX2_init_5 : decode cX2_init 5 = .ok (.iload_n 1, 1) := by decide +kernel
theorem dX2_init_6 : decode cX2_init 6 = .ok (.putfield 9, 3) := by decide +kernel
theorem dX2_init_9 : decode cX2_init 9 = .ok (.aload_n 0, 1) := by decide +kernel
theorem dX2_init_10 : decode cX2_init 10 = .ok (.aload_n 2, 1) := by decide +kernel
theorem dX2_init_11 : decode cX2_init 11 = .ok (.putfield 15, 3) := by decide +kernel
theorem dX2_init_14 : decode cX2_init 14 = .ok (.aload_n 0, 1) := by decide +kernel
theorem dX2_init_15 : decode cX2_init 15 = .ok (.iload_n 3, 1) := by decide +kernel
theorem dX2_init_16 : decode cX2_init 16 = .ok (.putfield 19, 3) := by decide +kernel
theorem dX2_init_19 : decode cX2_init 19 = .ok (.aload_n 0, 1) := by decide +kernel
theorem dX2_init_20 : decode cX2_init 20 = .ok (.iconst (-1), 1) := by decide +kernel
theorem dX2_init_21 : decode cX2_init 21 = .ok (.putfield 22, 3) := by decide +kernel
theorem dX2_init_24 : decode cX2_init 24 = .ok (.return_, 1) := by decide +kernel
theorem dX2_isFree_0 : decode cX2_isFree 0 = .ok (.aload_n 0, 1) := by decide +kernel
theorem dX2_isFree_1 : decode cX2_isFree 1 = .ok (.getfield 22, 3) := by decide +kernel
theorem dX2_isFree_4 : decode cX2_isFree 4 = .ok (.iconst (-1), 1) := by decide +kernel
theorem dX2_isFree_5 : decode cX2_isFree 5 = .ok (.if_icmp .ne 7, 3) := by decide +kernel
theorem dX2_isFree_8 : decode cX2_isFree 8 = .ok (.iconst 1, 1) := by decide +kernel
theorem dX2_isFree_9 : decode cX2_isFree 9 = .ok (.goto 4, 3) := by decide +kernel
theorem dX2_isFree_12 : decode cX2_isFree 12 = .ok (.iconst 0, 1) := by decide +kernel
theorem dX2_isFree_13 : decode cX2_isFree 13 = .ok (.ireturn, 1) := by decide +kernel
theorem dX2_enter_0 : decode cX2_enter 0 = .ok (.aload_n 0, 1) := by decide +kernel
theorem dX2_enter_1 : decode cX2_enter 1 = .ok (.iload_n 1, 1) := by decide +kernel
theorem dX2_enter_2 : decode cX2_enter 2 = .ok (.putfield 22, 3) := by decide +kernel
theorem dX2_enter_5 : decode cX2_enter 5 = .ok (.aload_n 0, 1) := by decide +kernel
theorem dX2_enter_6 : decode cX2_enter 6 = .ok (.iload_n 2, 1) := by decide +kernel
theorem dX2_enter_7 : decode cX2_enter 7 = .ok (.putfield 25, 3) := by decide +kernel
theorem dX2_enter_10 : decode cX2_enter 10 = .ok (.return_, 1) := by decide +kernel
theorem dX3_init_0 : decode cX3_init 0 = .ok (.aload_n 0, 1) := by decide +kernel
theorem dX3_init_1 : decode cX3_init 1 = .ok (.invokespecial 1, 3) := by decide +kernel
theorem dX3_init_4 : decode cX3_init 4 = .ok (.aload_n 0, 1) := by decide +kernel
theorem dX3_init_5 : decode cX3_init 5 = .ok (.bipush 8, 2) := by decide +kernel
theorem dX3_init_7 : decode cX3_init 7 = .ok (.anewarray 9, 3) := by decide +kernel
theorem dX3_init_10 : decode cX3_init 10 = .ok (.putfield 11, 3) := by decide +kernel
theorem dX3_init_13 : decode cX3_init 13 = .ok (.aload_n 0, 1) := by decide +kernel
theorem dX3_init_14 : decode cX3_init 14 = .ok (.bipush 60, 2) := by decide +kernel
theorem dX3_init_16 : decode cX3_init 16 = .ok (.anewarray 15, 3) := by decide +kernel
theorem dX3_init_19 : decode cX3_init 19 = .ok (.putfield 17, 3) := by decide +kernel
theorem dX3_init_22 : decode cX3_init 22 = .ok (.aload_n 0, 1) := by decide +kernel
theorem dX3_init_23 : decode cX3_init 23 = .ok (.bipush 24, 2) := by decide +kernel
theorem dX3_init_25 : decode cX3_init 25 = .ok (.anewarray 15, 3) := by decide +kernel
theorem dX3_init_28 : decode cX3_init 28 = .ok (.putfield 21, 3) := by decide +kernel
theorem dX3_init_31 : decode cX3_init 31 = .ok (.aload_n 0, 1) := by decide +kernel
theorem dX3_init_32 : decode cX3_init 32 = .ok (.iconst (-1), 1) := by decide +kernel
theorem dX3_init_33 : decode cX3_init 33 = .ok (.putfield 24, 3) := by decide +kernel
theorem dX3_init_36 : decode cX3_init 36 = .ok (.return_, 1) := by decide +kernel
set_option maxRecDepth 20000 in
theorem ggX3_begin_X0_init : GoodIn wsX3_begin wsX0_init := goodIn_r _ [10, 11, 12, 13, 14, 15, 16, 17, 18, 19, 20, 21, 22, 23, 24, 25, 39, 34, 35, 36, 37, 38] (by decide +kernel) (by decide +kernel)
set_option maxRecDepth 20000 in
theorem gX3_begin_X0_init : GoodIn wsX3_begin (wsX0_init) := ggX3_begin_X0_init
theorem dX3_begin_0 : decode cX3_begin 0 = .ok (.aload_n 0, 1) := by decide +kernel
theorem dX3_begin_1 : decode cX3_begin 1 = .ok (.getfield 28, 3) := by decide +kernel
theorem dX3_begin_4 : decode cX3_begin 4 = .ok (.bipush 8, 2) := by decide +kernel
theorem dX3_begin_6 : decode cX3_begin 6 = .ok (.if_icmp .lt 13, 3) := by decide +kernel
theorem dX3_begin_9 : decode cX3_begin 9 = .ok (.new 31, 3) := by decide +kernel
theorem dX3_begin_12 : decode cX3_begin 12 = .ok (.dup, 1) := by decide +kernel
theorem dX3_begin_13 : decode cX3_begin 13 = .ok (.ldc 33, 2) := by decide +kernel
theorem dX3_begin_15 : decode cX3_begin 15 = .ok (.invokespecial 35, 3) := by decide +kernel
theorem dX3_begin_18 : decode cX3_begin 18 = .ok (.athrow, 1) := by decide +kernel
theorem dX3_begin_19 : decode cX3_begin 19 = .ok (.aload_n 0, 1) := by decide +kernel
theorem dX3_begin_20 : decode cX3_begin 20 = .ok (.getfield 28, 3) := by decide +kernel
theorem dX3_begin_23 : decode cX3_begin 23 = .ok (.istore_n 1, 1) := by decide +kernel
theorem dX3_begin_24 : decode cX3_begin 24 = .ok (.aload_n 0, 1) := by decide +kernel
theorem dX3_begin_25 : decode cX3_begin 25 = .ok (.getfield 11, 3) := by decide +kernel
theorem dX3_begin_28 : decode cX3_begin 28 = .ok (.iload_n 1, 1) := by decide +kernel
theorem dX3_begin_29 : decode cX3_begin 29 = .ok (.new 9, 3) := by decide +kernel
theorem dX3_begin_32 : decode cX3_begin 32 = .ok (.dup, 1) := by decide +kernel
theorem dX3_begin_33 : decode cX3_begin 33 = .ok (.invokespecial 38, 3) := by decide +kernel
theorem dX3_begin_36 : decode cX3_begin 36 = .ok (.aastore, 1) := by decide +kernel
theorem dX3_begin_37 : decode cX3_begin 37 = .ok (.aload_n 0, 1) := by decide +kernel
theorem dX3_begin_38 : decode cX3_begin 38 = .ok (.dup, 1) := by decide +kernel
theorem dX3_begin_39 : decode cX3_begin 39 = .ok (.getfield 28, 3) := by decide +kernel
theorem dX3_begin_42 : decode cX3_begin 42 = .ok (.iconst 1, 1) := by decide +kernel
theorem dX3_begin_43 : decode cX3_begin 43 = .ok (.iadd, 1) := by decide +kernel
theorem dX3_begin_44 : decode cX3_begin 44 = .ok (.putfield 28, 3) := by decide +kernel
theorem dX3_begin_47 : decode cX3_begin 47 = .ok (.iload_n 1, 1) := by decide +kernel
theorem dX3_begin_48 : decode cX3_begin 48 = .ok (.ireturn, 1) := by decide +kernel
set_option maxRecDepth 20000 in
theorem ggX3_lay_X3_caneAt : GoodIn wsX3_lay wsX3_caneAt := goodIn_r _ [11, 12, 61, 62, 63, 64, 65, 66, 67, 68] (by decide +kernel) (by decide +kernel)
set_option maxRecDepth 20000 in
theorem gX3_lay_X3_caneAt : GoodIn wsX3_lay (wsV RX3 39 RX3 yX3_caneAt wsX3_caneAt) := goodIn_app (goodIn_of _ (by decide +kernel)) ggX3_lay_X3_caneAt
set_option maxRecDepth 20000 in
theorem ggX3_lay_X3_isRing : GoodIn wsX3_lay wsX3_isRing := goodIn_r _ [15] (by decide +kernel) (by decide +kernel)
set_option maxRecDepth 20000 in
theorem gX3_lay_X3_isRing : GoodIn wsX3_lay (va_wsS RX3 48 yX3_isRing wsX3_isRing) := goodIn_app (goodIn_of _ (by decide +kernel)) ggX3_lay_X3_isRing
set_option maxRecDepth 20000 in
theorem ggX3_lay_X3_isSector : GoodIn wsX3_lay wsX3_isSector := goodIn_r _ [18] (by decide +kernel) (by decide +kernel)
set_option maxRecDepth 20000 in
theorem gX3_lay_X3_isSector : GoodIn wsX3_lay (va_wsS RX3 52 yX3_isSector wsX3_isSector) := goodIn_app (goodIn_of _ (by decide +kernel)) ggX3_lay_X3_isSector
set_option maxRecDepth 20000 in
theorem ggX3_lay_X0_startWorking : GoodIn wsX3_lay wsX0_startWorking := goodIn_r _ [23, 24, 25, 56, 57, 58, 59, 60] (by decide +kernel) (by decide +kernel)
set_option maxRecDepth 20000 in
theorem gX3_lay_X0_startWorking : GoodIn wsX3_lay (wsV RX3 68 RX0 yX0_startWorking wsX0_startWorking) := goodIn_app (goodIn_of _ (by decide +kernel)) ggX3_lay_X0_startWorking
set_option maxRecDepth 20000 in
theorem ggX3_lay_X1_paint : GoodIn wsX3_lay wsX1_paint := goodIn_r _ [30, 31, 32, 33, 29, 34, 35, 36, 37, 38, 69] (by decide +kernel) (by decide +kernel)
set_option maxRecDepth 20000 in
theorem gX3_lay_X1_paint : GoodIn wsX3_lay (wsV RX3 75 RX1 yX1_paint wsX1_paint) := goodIn_app (goodIn_of _ (by decide +kernel)) ggX3_lay_X1_paint
set_option maxRecDepth 20000 in
theorem ggX3_lay_X3_passMinute : GoodIn wsX3_lay wsX3_passMinute := goodIn_r _ [42, 12, 43, 44, 45, 46, 47, 22, 48, 24, 49, 50, 51, 52, 53, 54, 55, 61, 62, 63, 64, 65, 66, 67, 68, 56, 57, 58, 59, 60] (by decide +kernel) (by decide +kernel)
set_option maxRecDepth 20000 in
theorem gX3_lay_X3_passMinute : GoodIn wsX3_lay (wsV RX3 81 RX3 yX3_passMinute wsX3_passMinute) := goodIn_app (goodIn_of _ (by decide +kernel)) ggX3_lay_X3_passMinute
theorem dX3_lay_0 : decode cX3_lay 0 = .ok (.aload_n 0, 1) := by decide +kernel
theorem dX3_lay_1 : decode cX3_lay 1 = .ok (.iload_n 1, 1) := by decide +kernel
theorem dX3_lay_2 : decode cX3_lay 2 = .ok (.invokevirtual 39, 3) := by decide +kernel
theorem dX3_lay_5 : decode cX3_lay 5 = .ok (.astore 6, 2) := by decide +kernel
theorem dX3_lay_7 : decode cX3_lay 7 = .ok (.aload 6, 2) := by decide +kernel
theorem dX3_lay_9 : decode cX3_lay 9 = .ok (.ifnonnull 13, 3) := by decide +kernel
theorem dX3_lay_12 : decode cX3_lay 12 = .ok (.new 43, 3) := by decide +kernel
theorem dX3_lay_15 : decode cX3_lay 15 = .ok (.dup, 1) := by decide +kernel
theorem dX3_lay_16 : decode cX3_lay 16 = .ok (.ldc 45, 2) := by decide +kernel
theorem dX3_lay_18 : decode cX3_lay 18 = .ok (.invokespecial 47, 3) := by decide +kernel
theorem dX3_lay_21 : decode cX3_lay 21 = .ok (.athrow, 1) := by decide +kernel
theorem dX3_lay_22 : decode cX3_lay 22 = .ok (.iload_n 2, 1) := by decide +kernel
theorem dX3_lay_23 : decode cX3_lay 23 = .ok (.invokestatic 48, 3) := by decide +kernel
theorem dX3_lay_26 : decode cX3_lay 26 = .ok (.ifCond .eq 10, 3) := by decide +kernel
theorem dX3_lay_29 : decode cX3_lay 29 = .ok (.iload_n 3, 1) := by decide +kernel
theorem dX3_lay_30 : decode cX3_lay 30 = .ok (.invokestatic 52, 3) := by decide +kernel
theorem dX3_lay_33 : decode cX3_lay 33 = .ok (.ifCond .ne 13, 3) := by decide +kernel
theorem dX3_lay_36 : decode cX3_lay 36 = .ok (.new 55, 3) := by decide +kernel
theorem dX3_lay_39 : decode cX3_lay 39 = .ok (.dup, 1) := by decide +kernel
theorem dX3_lay_40 : decode cX3_lay 40 = .ok (.ldc 57, 2) := by decide +kernel
theorem dX3_lay_42 : decode cX3_lay 42 = .ok (.invokespecial 59, 3) := by decide +kernel
theorem dX3_lay_45 : decode cX3_lay 45 = .ok (.athrow, 1) := by decide +kernel
theorem dX3_lay_46 : decode cX3_lay 46 = .ok (.iload 4, 2) := by decide +kernel
theorem dX3_lay_48 : decode cX3_lay 48 = .ok (.iconst 1, 1) := by decide +kernel
theorem dX3_lay_49 : decode cX3_lay 49 = .ok (.if_icmp .lt 22, 3) := by decide +kernel
theorem dX3_lay_52 : decode cX3_lay 52 = .ok (.iload 4, 2) := by decide +kernel
theorem dX3_lay_54 : decode cX3_lay 54 = .ok (.bipush 8, 2) := by decide +kernel
theorem dX3_lay_56 : decode cX3_lay 56 = .ok (.if_icmp .gt 15, 3) := by decide +kernel
theorem dX3_lay_59 : decode cX3_lay 59 = .ok (.iload 5, 2) := by decide +kernel
theorem dX3_lay_61 : decode cX3_lay 61 = .ok (.ifCond .lt 10, 3) := by decide +kernel
theorem dX3_lay_64 : decode cX3_lay 64 = .ok (.iload 5, 2) := by decide +kernel
theorem dX3_lay_66 : decode cX3_lay 66 = .ok (.bipush 8, 2) := by decide +kernel
theorem dX3_lay_68 : decode cX3_lay 68 = .ok (.if_icmp .lt 13, 3) := by decide +kernel
theorem dX3_lay_71 : decode cX3_lay 71 = .ok (.new 55, 3) := by decide +kernel
theorem dX3_lay_74 : decode cX3_lay 74 = .ok (.dup, 1) := by decide +kernel
theorem dX3_lay_75 : decode cX3_lay 75 = .ok (.ldc 60, 2) := by decide +kernel
theorem dX3_lay_77 : decode cX3_lay 77 = .ok (.invokespecial 59, 3) := by decide +kernel
theorem dX3_lay_80 : decode cX3_lay 80 = .ok (.athrow, 1) := by decide +kernel
theorem dX3_lay_81 : decode cX3_lay 81 = .ok (.aload 6, 2) := by decide +kernel
theorem dX3_lay_83 : decode cX3_lay 83 = .ok (.getfield 62, 3) := by decide +kernel
theorem dX3_lay_86 : decode cX3_lay 86 = .ok (.ifCond .eq 13, 3) := by decide +kernel
theorem dX3_lay_89 : decode cX3_lay 89 = .ok (.new 31, 3) := by decide +kernel
theorem dX3_lay_92 : decode cX3_lay 92 = .ok (.dup, 1) := by decide +kernel
theorem dX3_lay_93 : decode cX3_lay 93 = .ok (.ldc 66, 2) := by decide +kernel
theorem dX3_lay_95 : decode cX3_lay 95 = .ok (.invokespecial 35, 3) := by decide +kernel
theorem dX3_lay_98 : decode cX3_lay 98 = .ok (.athrow, 1) := by decide +kernel
theorem dX3_lay_99 : decode cX3_lay 99 = .ok (.aload 6, 2) := by decide +kernel
theorem dX3_lay_101 : decode cX3_lay 101 = .ok (.iconst 2, 1) := by decide +kernel
theorem dX3_lay_102 : decode cX3_lay 102 = .ok (.invokevirtual 68, 3) := by decide +kernel
theorem dX3_lay_105 : decode cX3_lay 105 = .ok (.istore 7, 2) := by decide +kernel
theorem dX3_lay_107 : decode cX3_lay 107 = .ok (.iload 7, 2) := by decide +kernel
theorem dX3_lay_109 : decode cX3_lay 109 = .ok (.ifCond .eq 17, 3) := by decide +kernel
theorem dX3_lay_112 : decode cX3_lay 112 = .ok (.aload 6, 2) := by decide +kernel
theorem dX3_lay_114 : decode cX3_lay 114 = .ok (.getfield 71, 3) := by decide +kernel
theorem dX3_lay_117 : decode cX3_lay 117 = .ok (.iload_n 2, 1) := by decide +kernel
theorem dX3_lay_118 : decode cX3_lay 118 = .ok (.iload_n 3, 1) := by decide +kernel
theorem dX3_lay_119 : decode cX3_lay 119 = .ok (.iload 4, 2) := by decide +kernel
theorem dX3_lay_121 : decode cX3_lay 121 = .ok (.iload 5, 2) := by decide +kernel
theorem dX3_lay_123 : decode cX3_lay 123 = .ok (.invokevirtual 75, 3) := by decide +kernel
theorem dX3_lay_126 : decode cX3_lay 126 = .ok (.aload_n 0, 1) := by decide +kernel
theorem dX3_lay_127 : decode cX3_lay 127 = .ok (.invokevirtual 81, 3) := by decide +kernel
theorem dX3_lay_130 : decode cX3_lay 130 = .ok (.iload 7, 2) := by decide +kernel
theorem dX3_lay_132 : decode cX3_lay 132 = .ok (.ireturn, 1) := by decide +kernel
set_option maxRecDepth 20000 in
theorem ggX3_twist_X3_caneAt : GoodIn wsX3_twist wsX3_caneAt := goodIn_r _ [11, 12, 45, 46, 47, 48, 49, 50, 51, 52] (by decide +kernel) (by decide +kernel)
set_option maxRecDepth 20000 in
theorem gX3_twist_X3_caneAt : GoodIn wsX3_twist (wsV RX3 39 RX3 yX3_caneAt wsX3_caneAt) := goodIn_app (goodIn_of _ (by decide +kernel)) ggX3_twist_X3_caneAt
set_option maxRecDepth 20000 in
theorem ggX3_twist_X3_isTwist : GoodIn wsX3_twist wsX3_isTwist := goodIn_r _ [15] (by decide +kernel) (by decide +kernel)
set_option maxRecDepth 20000 in
theorem gX3_twist_X3_isTwist : GoodIn wsX3_twist (va_wsS RX3 84 yX3_isTwist wsX3_isTwist) := goodIn_app (goodIn_of _ (by decide +kernel)) ggX3_twist_X3_isTwist
set_option maxRecDepth 20000 in
theorem ggX3_twist_X0_startWorking : GoodIn wsX3_twist wsX0_startWorking := goodIn_r _ [20, 21, 22, 40, 41, 42, 43, 44] (by decide +kernel) (by decide +kernel)
set_option maxRecDepth 20000 in
theorem gX3_twist_X0_startWorking : GoodIn wsX3_twist (wsV RX3 68 RX0 yX0_startWorking wsX0_startWorking) := goodIn_app (goodIn_of _ (by decide +kernel)) ggX3_twist_X0_startWorking
set_option maxRecDepth 20000 in
theorem ggX3_twist_X3_passMinute : GoodIn wsX3_twist wsX3_passMinute := goodIn_r _ [26, 12, 27, 28, 29, 30, 31, 19, 32, 21, 33, 34, 35, 36, 37, 38, 39, 45, 46, 47, 48, 49, 50, 51, 52, 40, 41, 42, 43, 44] (by decide +kernel) (by decide +kernel)
set_option maxRecDepth 20000 in
theorem gX3_twist_X3_passMinute : GoodIn wsX3_twist (wsV RX3 81 RX3 yX3_passMinute wsX3_passMinute) := goodIn_app (goodIn_of _ (by decide +kernel)) ggX3_twist_X3_passMinute
theorem dX3_twist_0 : decode cX3_twist 0 = .ok (.aload_n 0, 1) := by decide +kernel
theorem dX3_twist_1 : decode cX3_twist 1 = .ok (.iload_n 1, 1) := by decide +kernel
theorem dX3_twist_2 : decode cX3_twist 2 = .ok (.invokevirtual 39, 3) := by decide +kernel
theorem dX3_twist_5 : decode cX3_twist 5 = .ok (.astore_n 3, 1) := by decide +kernel
theorem dX3_twist_6 : decode cX3_twist 6 = .ok (.aload_n 3, 1) := by decide +kernel
theorem dX3_twist_7 : decode cX3_twist 7 = .ok (.ifnonnull 13, 3) := by decide +kernel
theorem dX3_twist_10 : decode cX3_twist 10 = .ok (.new 43, 3) := by decide +kernel
theorem dX3_twist_13 : decode cX3_twist 13 = .ok (.dup, 1) := by decide +kernel
theorem dX3_twist_14 : decode cX3_twist 14 = .ok (.ldc 45, 2) := by decide +kernel
theorem dX3_twist_16 : decode cX3_twist 16 = .ok (.invokespecial 47, 3) := by decide +kernel
theorem dX3_twist_19 : decode cX3_twist 19 = .ok (.athrow, 1) := by decide +kernel
theorem dX3_twist_20 : decode cX3_twist 20 = .ok (.iload_n 2, 1) := by decide +kernel
theorem dX3_twist_21 : decode cX3_twist 21 = .ok (.ifCond .eq 10, 3) := by decide +kernel
theorem dX3_twist_24 : decode cX3_twist 24 = .ok (.iload_n 2, 1) := by decide +kernel
theorem dX3_twist_25 : decode cX3_twist 25 = .ok (.invokestatic 84, 3) := by decide +kernel
theorem dX3_twist_28 : decode cX3_twist 28 = .ok (.ifCond .ne 13, 3) := by decide +kernel
theorem dX3_twist_31 : decode cX3_twist 31 = .ok (.new 55, 3) := by decide +kernel
theorem dX3_twist_34 : decode cX3_twist 34 = .ok (.dup, 1) := by decide +kernel
theorem dX3_twist_35 : decode cX3_twist 35 = .ok (.ldc 87, 2) := by decide +kernel
theorem dX3_twist_37 : decode cX3_twist 37 = .ok (.invokespecial 59, 3) := by decide +kernel
theorem dX3_twist_40 : decode cX3_twist 40 = .ok (.athrow, 1) := by decide +kernel
theorem dX3_twist_41 : decode cX3_twist 41 = .ok (.aload_n 3, 1) := by decide +kernel
theorem dX3_twist_42 : decode cX3_twist 42 = .ok (.getfield 62, 3) := by decide +kernel
theorem dX3_twist_45 : decode cX3_twist 45 = .ok (.ifCond .ne 15, 3) := by decide +kernel
theorem dX3_twist_48 : decode cX3_twist 48 = .ok (.aload_n 3, 1) := by decide +kernel
theorem dX3_twist_49 : decode cX3_twist 49 = .ok (.getfield 89, 3) := by decide +kernel
theorem dX3_twist_52 : decode cX3_twist 52 = .ok (.iload_n 2, 1) := by decide +kernel
theorem dX3_twist_53 : decode cX3_twist 53 = .ok (.iadd, 1) := by decide +kernel
theorem dX3_twist_54 : decode cX3_twist 54 = .ok (.invokestatic 84, 3) := by decide +kernel
theorem dX3_twist_57 : decode cX3_twist 57 = .ok (.ifCond .ne 13, 3) := by decide +kernel
theorem dX3_twist_60 : decode cX3_twist 60 = .ok (.new 31, 3) := by decide +kernel
theorem dX3_twist_63 : decode cX3_twist 63 = .ok (.dup, 1) := by decide +kernel
theorem dX3_twist_64 : decode cX3_twist 64 = .ok (.ldc 92, 2) := by decide +kernel
theorem dX3_twist_66 : decode cX3_twist 66 = .ok (.invokespecial 35, 3) := by decide +kernel
theorem dX3_twist_69 : decode cX3_twist 69 = .ok (.athrow, 1) := by decide +kernel
theorem dX3_twist_70 : decode cX3_twist 70 = .ok (.aload_n 3, 1) := by decide +kernel
theorem dX3_twist_71 : decode cX3_twist 71 = .ok (.iconst 4, 1) := by decide +kernel
theorem dX3_twist_72 : decode cX3_twist 72 = .ok (.invokevirtual 68, 3) := by decide +kernel
theorem dX3_twist_75 : decode cX3_twist 75 = .ok (.istore 4, 2) := by decide +kernel
theorem dX3_twist_77 : decode cX3_twist 77 = .ok (.iload 4, 2) := by decide +kernel
theorem dX3_twist_79 : decode cX3_twist 79 = .ok (.ifCond .eq 13, 3) := by decide +kernel
theorem dX3_twist_82 : decode cX3_twist 82 = .ok (.aload_n 3, 1) := by decide +kernel
theorem dX3_twist_83 : decode cX3_twist 83 = .ok (.dup, 1) := by decide +kernel
theorem dX3_twist_84 : decode cX3_twist 84 = .ok (.getfield 89, 3) := by decide +kernel
theorem dX3_twist_87 : decode cX3_twist 87 = .ok (.iload_n 2, 1) := by decide +kernel
theorem dX3_twist_88 : decode cX3_twist 88 = .ok (.iadd, 1) := by decide +kernel
theorem dX3_twist_89 : decode cX3_twist 89 = .ok (.putfield 89, 3) := by decide +kernel
theorem dX3_twist_92 : decode cX3_twist 92 = .ok (.aload_n 0, 1) := by decide +kernel
theorem dX3_twist_93 : decode cX3_twist 93 = .ok (.invokevirtual 81, 3) := by decide +kernel
theorem dX3_twist_96 : decode cX3_twist 96 = .ok (.iload 4, 2) := by decide +kernel
theorem dX3_twist_98 : decode cX3_twist 98 = .ok (.ireturn, 1) := by decide +kernel
set_option maxRecDepth 20000 in
theorem ggX3_pull_X3_caneAt : GoodIn wsX3_pull wsX3_caneAt := goodIn_r _ [9, 10, 46, 47, 48, 49, 50, 51, 52, 53] (by decide +kernel) (by decide +kernel)
set_option maxRecDepth 20000 in
theorem gX3_pull_X3_caneAt : GoodIn wsX3_pull (wsV RX3 39 RX3 yX3_caneAt wsX3_caneAt) := goodIn_app (goodIn_of _ (by decide +kernel)) ggX3_pull_X3_caneAt
set_option maxRecDepth 20000 in
theorem ggX3_pull_X0_startWorking : GoodIn wsX3_pull wsX0_startWorking := goodIn_r _ [15, 16, 17, 41, 42, 43, 44, 45] (by decide +kernel) (by decide +kernel)
set_option maxRecDepth 20000 in
theorem gX3_pull_X0_startWorking : GoodIn wsX3_pull (wsV RX3 68 RX0 yX0_startWorking wsX0_startWorking) := goodIn_app (goodIn_of _ (by decide +kernel)) ggX3_pull_X0_startWorking
set_option maxRecDepth 20000 in
theorem ggX3_pull_X0_stretch : GoodIn wsX3_pull wsX0_stretch := goodIn_r _ [21, 22, 23, 24, 25, 26, 27, 41, 42, 43, 44, 45] (by decide +kernel) (by decide +kernel)
set_option maxRecDepth 20000 in
theorem gX3_pull_X0_stretch : GoodIn wsX3_pull (wsV RX3 94 RX0 yX0_stretch wsX0_stretch) := goodIn_app (goodIn_of _ (by decide +kernel)) ggX3_pull_X0_stretch
set_option maxRecDepth 20000 in
theorem ggX3_pull_X3_passMinute : GoodIn wsX3_pull wsX3_passMinute := goodIn_r _ [31, 10, 32, 33, 34, 35, 36, 14, 37, 16, 23, 24, 25, 26, 38, 39, 40, 46, 47, 48, 49, 50, 51, 52, 53, 41, 42, 43, 44, 45] (by decide +kernel) (by decide +kernel)
set_option maxRecDepth 20000 in
theorem gX3_pull_X3_passMinute : GoodIn wsX3_pull (wsV RX3 81 RX3 yX3_passMinute wsX3_passMinute) := goodIn_app (goodIn_of _ (by decide +kernel)) ggX3_pull_X3_passMinute
theorem dX3_pull_0 : decode cX3_pull 0 = .ok (.aload_n 0, 1) := by decide +kernel
theorem dX3_pull_1 : decode cX3_pull 1 = .ok (.iload_n 1, 1) := by decide +kernel
theorem dX3_pull_2 : decode cX3_pull 2 = .ok (.invokevirtual 39, 3) := by decide +kernel
theorem dX3_pull_5 : decode cX3_pull 5 = .ok (.astore_n 2, 1) := by decide +kernel
theorem dX3_pull_6 : decode cX3_pull 6 = .ok (.aload_n 2, 1) := by decide +kernel
theorem dX3_pull_7 : decode cX3_pull 7 = .ok (.ifnonnull 13, 3) := by decide +kernel
theorem dX3_pull_10 : decode cX3_pull 10 = .ok (.new 43, 3) := by decide +kernel
theorem dX3_pull_13 : decode cX3_pull 13 = .ok (.dup, 1) := by decide +kernel
theorem dX3_pull_14 : decode cX3_pull 14 = .ok (.ldc 45, 2) := by decide +kernel
theorem dX3_pull_16 : decode cX3_pull 16 = .ok (.invokespecial 47, 3) := by decide +kernel
theorem dX3_pull_19 : decode cX3_pull 19 = .ok (.athrow, 1) := by decide +kernel
theorem dX3_pull_20 : decode cX3_pull 20 = .ok (.aload_n 2, 1) := by decide +kernel
theorem dX3_pull_21 : decode cX3_pull 21 = .ok (.getfield 62, 3) := by decide +kernel
theorem dX3_pull_24 : decode cX3_pull 24 = .ok (.ifCond .eq 13, 3) := by decide +kernel
theorem dX3_pull_27 : decode cX3_pull 27 = .ok (.new 31, 3) := by decide +kernel
theorem dX3_pull_30 : decode cX3_pull 30 = .ok (.dup, 1) := by decide +kernel
theorem dX3_pull_31 : decode cX3_pull 31 = .ok (.ldc 66, 2) := by decide +kernel
theorem dX3_pull_33 : decode cX3_pull 33 = .ok (.invokespecial 35, 3) := by decide +kernel
theorem dX3_pull_36 : decode cX3_pull 36 = .ok (.athrow, 1) := by decide +kernel
theorem dX3_pull_37 : decode cX3_pull 37 = .ok (.aload_n 2, 1) := by decide +kernel
theorem dX3_pull_38 : decode cX3_pull 38 = .ok (.bipush 6, 2) := by decide +kernel
theorem dX3_pull_40 : decode cX3_pull 40 = .ok (.invokevirtual 68, 3) := by decide +kernel
theorem dX3_pull_43 : decode cX3_pull 43 = .ok (.istore_n 3, 1) := by decide +kernel
theorem dX3_pull_44 : decode cX3_pull 44 = .ok (.iload_n 3, 1) := by decide +kernel
theorem dX3_pull_45 : decode cX3_pull 45 = .ok (.ifCond .eq 7, 3) := by decide +kernel
theorem dX3_pull_48 : decode cX3_pull 48 = .ok (.aload_n 2, 1) := by decide +kernel
theorem dX3_pull_49 : decode cX3_pull 49 = .ok (.invokevirtual 94, 3) := by decide +kernel
theorem dX3_pull_52 : decode cX3_pull 52 = .ok (.aload_n 0, 1) := by decide +kernel
theorem dX3_pull_53 : decode cX3_pull 53 = .ok (.invokevirtual 81, 3) := by decide +kernel
theorem dX3_pull_56 : decode cX3_pull 56 = .ok (.iload_n 3, 1) := by decide +kernel
theorem dX3_pull_57 : decode cX3_pull 57 = .ok (.ireturn, 1) := by decide +kernel
set_option maxRecDepth 20000 in
theorem ggX3_furnace_X3_caneAt : GoodIn wsX3_furnace wsX3_caneAt := goodIn_r _ [8, 9, 10, 11, 12, 13, 14, 15, 16, 17] (by decide +kernel) (by decide +kernel)
set_option maxRecDepth 20000 in
theorem gX3_furnace_X3_caneAt : GoodIn wsX3_furnace (wsV RX3 39 RX3 yX3_caneAt wsX3_caneAt) := goodIn_app (goodIn_of _ (by decide +kernel)) ggX3_furnace_X3_caneAt
theorem dX3_furnace_0 : decode cX3_furnace 0 = .ok (.iload_n 1, 1) := by decide +kernel
theorem dX3_furnace_1 : decode cX3_furnace 1 = .ok (.iconst (-1), 1) := by decide +kernel
theorem dX3_furnace_2 : decode cX3_furnace 2 = .ok (.if_icmp .eq 21, 3) := by decide +kernel
theorem dX3_furnace_5 : decode cX3_furnace 5 = .ok (.aload_n 0, 1) := by decide +kernel
theorem dX3_furnace_6 : decode cX3_furnace 6 = .ok (.iload_n 1, 1) := by decide +kernel
theorem dX3_furnace_7 : decode cX3_furnace 7 = .ok (.invokevirtual 39, 3) := by decide +kernel
theorem dX3_furnace_10 : decode cX3_furnace 10 = .ok (.ifnonnull 13, 3) := by decide +kernel
theorem dX3_furnace_13 : decode cX3_furnace 13 = .ok (.new 43, 3) := by decide +kernel
theorem dX3_furnace_16 : decode cX3_furnace 16 = .ok (.dup, 1) := by decide +kernel
theorem dX3_furnace_17 : decode cX3_furnace 17 = .ok (.ldc 45, 2) := by decide +kernel
theorem dX3_furnace_19 : decode cX3_furnace 19 = .ok (.invokespecial 47, 3) := by decide +kernel
theorem dX3_furnace_22 : decode cX3_furnace 22 = .ok (.athrow, 1) := by decide +kernel
theorem dX3_furnace_23 : decode cX3_furnace 23 = .ok (.aload_n 0, 1) := by decide +kernel
theorem dX3_furnace_24 : decode cX3_furnace 24 = .ok (.getfield 24, 3) := by decide +kernel
theorem dX3_furnace_27 : decode cX3_furnace 27 = .ok (.istore_n 2, 1) := by decide +kernel
theorem dX3_furnace_28 : decode cX3_furnace 28 = .ok (.aload_n 0, 1) := by decide +kernel
theorem dX3_furnace_29 : decode cX3_furnace 29 = .ok (.iload_n 1, 1) := by decide +kernel
theorem dX3_furnace_30 : decode cX3_furnace 30 = .ok (.putfield 24, 3) := by decide +kernel
theorem dX3_furnace_33 : decode cX3_furnace 33 = .ok (.iload_n 2, 1) := by decide +kernel
theorem dX3_furnace_34 : decode cX3_furnace 34 = .ok (.ireturn, 1) := by decide +kernel
set_option maxRecDepth 20000 in
theorem ggX3_rest_X3_passMinute : GoodIn wsX3_rest wsX3_passMinute := goodIn_r _ [7, 8, 9, 10, 11, 12, 13, 14, 15, 16, 17, 18, 19, 20, 21, 22, 23, 28, 29, 30, 31, 32, 33, 34, 35, 36, 37, 38, 39, 40] (by decide +kernel) (by decide +kernel)
set_option maxRecDepth 20000 in
theorem gX3_rest_X3_passMinute : GoodIn wsX3_rest (wsV RX3 81 RX3 yX3_passMinute wsX3_passMinute) := goodIn_app (goodIn_of _ (by decide +kernel)) ggX3_rest_X3_passMinute
set_option maxRecDepth 20000 in
theorem ggX3_rest_X3_heatOfAll : GoodIn wsX3_rest wsX3_heatOfAll := goodIn_r _ [27, 8, 28, 29, 30, 31, 32, 33, 34, 35, 36, 37, 38, 39, 40] (by decide +kernel) (by decide +kernel)
set_option maxRecDepth 20000 in
theorem gX3_rest_X3_heatOfAll : GoodIn wsX3_rest (wsV RX3 99 RX3 yX3_heatOfAll wsX3_heatOfAll) := goodIn_app (goodIn_of _ (by decide +kernel)) ggX3_rest_X3_heatOfAll
theorem dX3_rest_0 : decode cX3_rest 0 = .ok (.iload_n 1, 1) := by decide +kernel
theorem dX3_rest_1 : decode cX3_rest 1 = .ok (.iconst 1, 1) := by decide +kernel
theorem dX3_rest_2 : decode cX3_rest 2 = .ok (.if_icmp .lt 9, 3) := by decide +kernel
theorem dX3_rest_5 : decode cX3_rest 5 = .ok (.iload_n 1, 1) := by decide +kernel
theorem dX3_rest_6 : decode cX3_rest 6 = .ok (.bipush 60, 2) := by decide +kernel
theorem dX3_rest_8 : decode cX3_rest 8 = .ok (.if_icmp .le 13, 3) := by decide +kernel
theorem dX3_rest_11 : decode cX3_rest 11 = .ok (.new 55, 3) := by decide +kernel
theorem dX3_rest_14 : decode cX3_rest 14 = .ok (.dup, 1) := by decide +kernel
theorem dX3_rest_15 : decode cX3_rest 15 = .ok (.ldc 97, 2) := by decide +kernel
theorem dX3_rest_17 : decode cX3_rest 17 = .ok (.invokespecial 59, 3) := by decide +kernel
theorem dX3_rest_20 : decode cX3_rest 20 = .ok (.athrow, 1) := by decide +kernel
theorem dX3_rest_21 : decode cX3_rest 21 = .ok (.iconst 0, 1) := by decide +kernel
theorem dX3_rest_22 : decode cX3_rest 22 = .ok (.istore_n 2, 1) := by decide +kernel
theorem dX3_rest_23 : decode cX3_rest 23 = .ok (.iload_n 2, 1) := by decide +kernel
theorem dX3_rest_24 : decode cX3_rest 24 = .ok (.iload_n 1, 1) := by decide +kernel
theorem dX3_rest_25 : decode cX3_rest 25 = .ok (.if_icmp .ge 13, 3) := by decide +kernel
theorem dX3_rest_28 : decode cX3_rest 28 = .ok (.aload_n 0, 1) := by decide +kernel
theorem dX3_rest_29 : decode cX3_rest 29 = .ok (.invokevirtual 81, 3) := by decide +kernel
theorem dX3_rest_32 : decode cX3_rest 32 = .ok (.iinc 2 1, 3) := by decide +kernel
theorem dX3_rest_35 : decode cX3_rest 35 = .ok (.goto (-12), 3) := by decide +kernel
theorem dX3_rest_38 : decode cX3_rest 38 = .ok (.aload_n 0, 1) := by decide +kernel
theorem dX3_rest_39 : decode cX3_rest 39 = .ok (.invokevirtual 99, 3) := by decide +kernel
theorem dX3_rest_42 : decode cX3_rest 42 = .ok (.ireturn, 1) := by decide +kernel
set_option maxRecDepth 20000 in
theorem ggX3_cut_X3_caneAt : GoodIn wsX3_cut wsX3_caneAt := goodIn_r _ [14, 15, 73, 74, 75, 76, 77, 78, 79, 80] (by decide +kernel) (by decide +kernel)
set_option maxRecDepth 20000 in
theorem gX3_cut_X3_caneAt : GoodIn wsX3_cut (wsV RX3 39 RX3 yX3_caneAt wsX3_caneAt) := goodIn_app (goodIn_of _ (by decide +kernel)) ggX3_cut_X3_caneAt
set_option maxRecDepth 20000 in
theorem ggX3_cut_X0_turnAt : GoodIn wsX3_cut wsX0_turnAt := goodIn_r _ [20, 21, 68, 69, 70, 71, 72] (by decide +kernel) (by decide +kernel)
set_option maxRecDepth 20000 in
theorem gX3_cut_X0_turnAt : GoodIn wsX3_cut (wsV RX3 116 RX0 yX0_turnAt wsX0_turnAt) := goodIn_app (goodIn_of _ (by decide +kernel)) ggX3_cut_X0_turnAt
set_option maxRecDepth 20000 in
theorem ggX3_cut_X1_turned : GoodIn wsX3_cut wsX1_turned := goodIn_r _ [26, 27, 28, 25, 29, 30, 31, 32, 33, 34, 35, 36, 37, 38, 39, 40, 41, 42, 43, 44, 45, 46, 47, 86] (by decide +kernel) (by decide +kernel)
set_option maxRecDepth 20000 in
theorem gX3_cut_X1_turned : GoodIn wsX3_cut (wsV RX3 120 RX1 yX1_turned wsX1_turned) := goodIn_app (goodIn_of _ (by decide +kernel)) ggX3_cut_X1_turned
set_option maxRecDepth 20000 in
theorem ggX3_cut_X3_kindOf : GoodIn wsX3_cut wsX3_kindOf := goodIn_r _ [51, 6, 5, 52, 53, 54, 25, 55, 56, 57, 58, 59, 29, 37, 38, 39, 40, 41, 42, 43, 44, 45, 46, 47, 73, 74, 75, 76, 77, 78, 79, 80, 81, 82, 83, 84, 85, 86] (by decide +kernel) (by decide +kernel)
set_option maxRecDepth 20000 in
theorem gX3_cut_X3_kindOf : GoodIn wsX3_cut (wsV RX3 124 RX3 yX3_kindOf wsX3_kindOf) := goodIn_app (goodIn_of _ (by decide +kernel)) ggX3_cut_X3_kindOf
set_option maxRecDepth 20000 in
theorem ggX3_cut_X2_init : GoodIn wsX3_cut wsX2_init := goodIn_r _ [62, 63, 34, 35, 64, 65, 66, 67, 81, 82, 83, 84, 85] (by decide +kernel) (by decide +kernel)
set_option maxRecDepth 20000 in
theorem gX3_cut_X2_init : GoodIn wsX3_cut (wsX2_init) := ggX3_cut_X2_init
theorem dX3_cut_0 : decode cX3_cut 0 = .ok (.aload_n 0, 1) := by decide +kernel
theorem dX3_cut_1 : decode cX3_cut 1 = .ok (.iload_n 1, 1) := by decide +kernel
theorem dX3_cut_2 : decode cX3_cut 2 = .ok (.invokevirtual 39, 3) := by decide +kernel
theorem dX3_cut_5 : decode cX3_cut 5 = .ok (.astore_n 2, 1) := by decide +kernel
theorem dX3_cut_6 : decode cX3_cut 6 = .ok (.aload_n 2, 1) := by decide +kernel
theorem dX3_cut_7 : decode cX3_cut 7 = .ok (.ifnonnull 13, 3) := by decide +kernel
theorem dX3_cut_10 : decode cX3_cut 10 = .ok (.new 43, 3) := by decide +kernel
theorem dX3_cut_13 : decode cX3_cut 13 = .ok (.dup, 1) := by decide +kernel
theorem dX3_cut_14 : decode cX3_cut 14 = .ok (.ldc 45, 2) := by decide +kernel
theorem dX3_cut_16 : decode cX3_cut 16 = .ok (.invokespecial 47, 3) := by decide +kernel
theorem dX3_cut_19 : decode cX3_cut 19 = .ok (.athrow, 1) := by decide +kernel
theorem dX3_cut_20 : decode cX3_cut 20 = .ok (.aload_n 2, 1) := by decide +kernel
theorem dX3_cut_21 : decode cX3_cut 21 = .ok (.getfield 103, 3) := by decide +kernel
theorem dX3_cut_24 : decode cX3_cut 24 = .ok (.ifCond .eq 11, 3) := by decide +kernel
theorem dX3_cut_27 : decode cX3_cut 27 = .ok (.aload_n 2, 1) := by decide +kernel
theorem dX3_cut_28 : decode cX3_cut 28 = .ok (.getfield 106, 3) := by decide +kernel
theorem dX3_cut_31 : decode cX3_cut 31 = .ok (.iconst 3, 1) := by decide +kernel
theorem dX3_cut_32 : decode cX3_cut 32 = .ok (.if_icmp .le 13, 3) := by decide +kernel
theorem dX3_cut_35 : decode cX3_cut 35 = .ok (.new 31, 3) := by decide +kernel
theorem dX3_cut_38 : decode cX3_cut 38 = .ok (.dup, 1) := by decide +kernel
theorem dX3_cut_39 : decode cX3_cut 39 = .ok (.ldc 109, 2) := by decide +kernel
theorem dX3_cut_41 : decode cX3_cut 41 = .ok (.invokespecial 35, 3) := by decide +kernel
theorem dX3_cut_44 : decode cX3_cut 44 = .ok (.athrow, 1) := by decide +kernel
theorem dX3_cut_45 : decode cX3_cut 45 = .ok (.aload_n 0, 1) := by decide +kernel
theorem dX3_cut_46 : decode cX3_cut 46 = .ok (.getfield 111, 3) := by decide +kernel
theorem dX3_cut_49 : decode cX3_cut 49 = .ok (.bipush 60, 2) := by decide +kernel
theorem dX3_cut_51 : decode cX3_cut 51 = .ok (.if_icmp .lt 13, 3) := by decide +kernel
theorem dX3_cut_54 : decode cX3_cut 54 = .ok (.new 31, 3) := by decide +kernel
theorem dX3_cut_57 : decode cX3_cut 57 = .ok (.dup, 1) := by decide +kernel
theorem dX3_cut_58 : decode cX3_cut 58 = .ok (.ldc 114, 2) := by decide +kernel
theorem dX3_cut_60 : decode cX3_cut 60 = .ok (.invokespecial 35, 3) := by decide +kernel
theorem dX3_cut_63 : decode cX3_cut 63 = .ok (.athrow, 1) := by decide +kernel
theorem dX3_cut_64 : decode cX3_cut 64 = .ok (.aload_n 0, 1) := by decide +kernel
theorem dX3_cut_65 : decode cX3_cut 65 = .ok (.getfield 111, 3) := by decide +kernel
theorem dX3_cut_68 : decode cX3_cut 68 = .ok (.istore_n 3, 1) := by decide +kernel
theorem dX3_cut_69 : decode cX3_cut 69 = .ok (.aload_n 2, 1) := by decide +kernel
theorem dX3_cut_70 : decode cX3_cut 70 = .ok (.getfield 71, 3) := by decide +kernel
theorem dX3_cut_73 : decode cX3_cut 73 = .ok (.aload_n 2, 1) := by decide +kernel
theorem dX3_cut_74 : decode cX3_cut 74 = .ok (.aload_n 2, 1) := by decide +kernel
theorem dX3_cut_75 : decode cX3_cut 75 = .ok (.getfield 103, 3) := by decide +kernel
theorem dX3_cut_78 : decode cX3_cut 78 = .ok (.iconst 1, 1) := by decide +kernel
theorem dX3_cut_79 : decode cX3_cut 79 = .ok (.isub, 1) := by decide +kernel
theorem dX3_cut_80 : decode cX3_cut 80 = .ok (.invokevirtual 116, 3) := by decide +kernel
theorem dX3_cut_83 : decode cX3_cut 83 = .ok (.invokevirtual 120, 3) := by decide +kernel
theorem dX3_cut_86 : decode cX3_cut 86 = .ok (.astore 4, 2) := by decide +kernel
theorem dX3_cut_88 : decode cX3_cut 88 = .ok (.aload_n 0, 1) := by decide +kernel
theorem dX3_cut_89 : decode cX3_cut 89 = .ok (.getfield 17, 3) := by decide +kernel
theorem dX3_cut_92 : decode cX3_cut 92 = .ok (.iload_n 3, 1) := by decide +kernel
theorem dX3_cut_93 : decode cX3_cut 93 = .ok (.new 15, 3) := by decide +kernel
theorem dX3_cut_96 : decode cX3_cut 96 = .ok (.dup, 1) := by decide +kernel
theorem dX3_cut_97 : decode cX3_cut 97 = .ok (.iload_n 3, 1) := by decide +kernel
theorem dX3_cut_98 : decode cX3_cut 98 = .ok (.aload 4, 2) := by decide +kernel
theorem dX3_cut_100 : decode cX3_cut 100 = .ok (.aload_n 0, 1) := by decide +kernel
theorem dX3_cut_101 : decode cX3_cut 101 = .ok (.aload 4, 2) := by decide +kernel
theorem dX3_cut_103 : decode cX3_cut 103 = .ok (.invokevirtual 124, 3) := by decide +kernel
theorem dX3_cut_106 : decode cX3_cut 106 = .ok (.invokespecial 128, 3) := by decide +kernel
theorem dX3_cut_109 : decode cX3_cut 109 = .ok (.aastore, 1) := by decide +kernel
theorem dX3_cut_110 : decode cX3_cut 110 = .ok (.aload_n 0, 1) := by decide +kernel
theorem dX3_cut_111 : decode cX3_cut 111 = .ok (.dup, 1) := by decide +kernel
theorem dX3_cut_112 : decode cX3_cut 112 = .ok (.getfield 111, 3) := by decide +kernel
theorem dX3_cut_115 : decode cX3_cut 115 = .ok (.iconst 1, 1) := by decide +kernel
theorem dX3_cut_116 : decode cX3_cut 116 = .ok (.iadd, 1) := by decide +kernel
theorem dX3_cut_117 : decode cX3_cut 117 = .ok (.putfield 111, 3) := by decide +kernel
theorem dX3_cut_120 : decode cX3_cut 120 = .ok (.aload_n 2, 1) := by decide +kernel
theorem dX3_cut_121 : decode cX3_cut 121 = .ok (.dup, 1) := by decide +kernel
theorem dX3_cut_122 : decode cX3_cut 122 = .ok (.getfield 103, 3) := by decide +kernel
theorem dX3_cut_125 : decode cX3_cut 125 = .ok (.iconst 1, 1) := by decide +kernel
theorem dX3_cut_126 : decode cX3_cut 126 = .ok (.isub, 1) := by decide +kernel
theorem dX3_cut_127 : decode cX3_cut 127 = .ok (.putfield 103, 3) := by decide +kernel
theorem dX3_cut_130 : decode cX3_cut 130 = .ok (.iload_n 3, 1) := by decide +kernel
theorem dX3_cut_131 : decode cX3_cut 131 = .ok (.ireturn, 1) := by decide +kernel
set_option maxRecDepth 20000 in
theorem ggX3_cane_X3_caneAt : GoodIn wsX3_cane wsX3_caneAt := goodIn_r _ [8, 9, 19, 20, 21, 22, 23, 24, 25, 26] (by decide +kernel) (by decide +kernel)
set_option maxRecDepth 20000 in
theorem gX3_cane_X3_caneAt : GoodIn wsX3_cane (wsV RX3 39 RX3 yX3_caneAt wsX3_caneAt) := goodIn_app (goodIn_of _ (by decide +kernel)) ggX3_cane_X3_caneAt
set_option maxRecDepth 20000 in
theorem ggX3_cane_X0_tell : GoodIn wsX3_cane wsX0_tell := goodIn_r _ [14, 15, 16, 17, 18, 27, 28, 29, 30, 31] (by decide +kernel) (by decide +kernel)
set_option maxRecDepth 20000 in
theorem gX3_cane_X0_tell : GoodIn wsX3_cane (wsV RX3 133 RX0 yX0_tell wsX0_tell) := goodIn_app (goodIn_of _ (by decide +kernel)) ggX3_cane_X0_tell
theorem dX3_cane_0 : decode cX3_cane 0 = .ok (.aload_n 0, 1) := by decide +kernel
theorem dX3_cane_1 : decode cX3_cane 1 = .ok (.iload_n 1, 1) := by decide +kernel
theorem dX3_cane_2 : decode cX3_cane 2 = .ok (.invokevirtual 39, 3) := by decide +kernel
theorem dX3_cane_5 : decode cX3_cane 5 = .ok (.astore_n 3, 1) := by decide +kernel
theorem dX3_cane_6 : decode cX3_cane 6 = .ok (.aload_n 3, 1) := by decide +kernel
theorem dX3_cane_7 : decode cX3_cane 7 = .ok (.ifnull 12, 3) := by decide +kernel
theorem dX3_cane_10 : decode cX3_cane 10 = .ok (.iload_n 2, 1) := by decide +kernel
theorem dX3_cane_11 : decode cX3_cane 11 = .ok (.ifCond .lt 8, 3) := by decide +kernel
theorem dX3_cane_14 : decode cX3_cane 14 = .ok (.iload_n 2, 1) := by decide +kernel
theorem dX3_cane_15 : decode cX3_cane 15 = .ok (.iconst 5, 1) := by decide +kernel
theorem dX3_cane_16 : decode cX3_cane 16 = .ok (.if_icmp .lt 13, 3) := by decide +kernel
theorem dX3_cane_19 : decode cX3_cane 19 = .ok (.new 43, 3) := by decide +kernel
theorem dX3_cane_22 : decode cX3_cane 22 = .ok (.dup, 1) := by decide +kernel
theorem dX3_cane_23 : decode cX3_cane 23 = .ok (.ldc 131, 2) := by decide +kernel
theorem dX3_cane_25 : decode cX3_cane 25 = .ok (.invokespecial 47, 3) := by decide +kernel
theorem dX3_cane_28 : decode cX3_cane 28 = .ok (.athrow, 1) := by decide +kernel
theorem dX3_cane_29 : decode cX3_cane 29 = .ok (.aload_n 3, 1) := by decide +kernel
theorem dX3_cane_30 : decode cX3_cane 30 = .ok (.iload_n 2, 1) := by decide +kernel
theorem dX3_cane_31 : decode cX3_cane 31 = .ok (.iload_n 1, 1) := by decide +kernel
theorem dX3_cane_32 : decode cX3_cane 32 = .ok (.aload_n 0, 1) := by decide +kernel
theorem dX3_cane_33 : decode cX3_cane 33 = .ok (.getfield 24, 3) := by decide +kernel
theorem dX3_cane_36 : decode cX3_cane 36 = .ok (.if_icmp .ne 7, 3) := by decide +kernel
theorem dX3_cane_39 : decode cX3_cane 39 = .ok (.iconst 1, 1) := by decide +kernel
theorem dX3_cane_40 : decode cX3_cane 40 = .ok (.goto 4, 3) := by decide +kernel
theorem dX3_cane_43 : decode cX3_cane 43 = .ok (.iconst 0, 1) := by decide +kernel
theorem dX3_cane_44 : decode cX3_cane 44 = .ok (.invokevirtual 133, 3) := by decide +kernel
theorem dX3_cane_47 : decode cX3_cane 47 = .ok (.ireturn, 1) := by decide +kernel
set_option maxRecDepth 20000 in
theorem ggX3_shows_X3_caneAt : GoodIn wsX3_shows wsX3_caneAt := goodIn_r _ [7, 8, 44, 45, 46, 47, 48, 49, 50, 51] (by decide +kernel) (by decide +kernel)
set_option maxRecDepth 20000 in
theorem gX3_shows_X3_caneAt : GoodIn wsX3_shows (wsV RX3 39 RX3 yX3_caneAt wsX3_caneAt) := goodIn_app (goodIn_of _ (by decide +kernel)) ggX3_shows_X3_caneAt
set_option maxRecDepth 20000 in
theorem ggX3_shows_X0_hasPlace : GoodIn wsX3_shows wsX0_hasPlace := goodIn_r _ [13, 14, 39, 40, 41, 42, 43] (by decide +kernel) (by decide +kernel)
set_option maxRecDepth 20000 in
theorem gX3_shows_X0_hasPlace : GoodIn wsX3_shows (wsV RX3 137 RX0 yX0_hasPlace wsX0_hasPlace) := goodIn_app (goodIn_of _ (by decide +kernel)) ggX3_shows_X0_hasPlace
set_option maxRecDepth 20000 in
theorem ggX3_shows_X3_isRing : GoodIn wsX3_shows wsX3_isRing := goodIn_r _ [17] (by decide +kernel) (by decide +kernel)
set_option maxRecDepth 20000 in
theorem gX3_shows_X3_isRing : GoodIn wsX3_shows (va_wsS RX3 48 yX3_isRing wsX3_isRing) := goodIn_app (goodIn_of _ (by decide +kernel)) ggX3_shows_X3_isRing
set_option maxRecDepth 20000 in
theorem ggX3_shows_X3_isSector : GoodIn wsX3_shows wsX3_isSector := goodIn_r _ [20] (by decide +kernel) (by decide +kernel)
set_option maxRecDepth 20000 in
theorem gX3_shows_X3_isSector : GoodIn wsX3_shows (va_wsS RX3 52 yX3_isSector wsX3_isSector) := goodIn_app (goodIn_of _ (by decide +kernel)) ggX3_shows_X3_isSector
set_option maxRecDepth 20000 in
theorem ggX3_shows_X0_turnAt : GoodIn wsX3_shows wsX0_turnAt := goodIn_r _ [24, 25, 39, 40, 41, 42, 43] (by decide +kernel) (by decide +kernel)
set_option maxRecDepth 20000 in
theorem gX3_shows_X0_turnAt : GoodIn wsX3_shows (wsV RX3 116 RX0 yX0_turnAt wsX0_turnAt) := goodIn_app (goodIn_of _ (by decide +kernel)) ggX3_shows_X0_turnAt
set_option maxRecDepth 20000 in
theorem ggX3_shows_X1_colourAt : GoodIn wsX3_shows wsX1_colourAt := goodIn_r _ [30, 31, 32, 33, 29, 34, 35, 36, 37, 38, 52] (by decide +kernel) (by decide +kernel)
set_option maxRecDepth 20000 in
theorem gX3_shows_X1_colourAt : GoodIn wsX3_shows (wsV RX3 142 RX1 yX1_colourAt wsX1_colourAt) := goodIn_app (goodIn_of _ (by decide +kernel)) ggX3_shows_X1_colourAt
theorem dX3_shows_0 : decode cX3_shows 0 = .ok (.aload_n 0, 1) := by decide +kernel
theorem dX3_shows_1 : decode cX3_shows 1 = .ok (.iload_n 1, 1) := by decide +kernel
theorem dX3_shows_2 : decode cX3_shows 2 = .ok (.invokevirtual 39, 3) := by decide +kernel
theorem dX3_shows_5 : decode cX3_shows 5 = .ok (.astore 5, 2) := by decide +kernel
theorem dX3_shows_7 : decode cX3_shows 7 = .ok (.aload 5, 2) := by decide +kernel
theorem dX3_shows_9 : decode cX3_shows 9 = .ok (.ifnull 27, 3) := by decide +kernel
theorem dX3_shows_12 : decode cX3_shows 12 = .ok (.aload 5, 2) := by decide +kernel
theorem dX3_shows_14 : decode cX3_shows 14 = .ok (.iload_n 2, 1) := by decide +kernel
theorem dX3_shows_15 : decode cX3_shows 15 = .ok (.invokevirtual 137, 3) := by decide +kernel
theorem dX3_shows_18 : decode cX3_shows 18 = .ok (.ifCond .eq 18, 3) := by decide +kernel
theorem dX3_shows_21 : decode cX3_shows 21 = .ok (.iload_n 3, 1) := by decide +kernel
theorem dX3_shows_22 : decode cX3_shows 22 = .ok (.invokestatic 48, 3) := by decide +kernel
theorem dX3_shows_25 : decode cX3_shows 25 = .ok (.ifCond .eq 11, 3) := by decide +kernel
theorem dX3_shows_28 : decode cX3_shows 28 = .ok (.iload 4, 2) := by decide +kernel
theorem dX3_shows_30 : decode cX3_shows 30 = .ok (.invokestatic 52, 3) := by decide +kernel
theorem dX3_shows_33 : decode cX3_shows 33 = .ok (.ifCond .ne 13, 3) := by decide +kernel
theorem dX3_shows_36 : decode cX3_shows 36 = .ok (.new 43, 3) := by decide +kernel
theorem dX3_shows_39 : decode cX3_shows 39 = .ok (.dup, 1) := by decide +kernel
theorem dX3_shows_40 : decode cX3_shows 40 = .ok (.ldc 140, 2) := by decide +kernel
theorem dX3_shows_42 : decode cX3_shows 42 = .ok (.invokespecial 47, 3) := by decide +kernel
theorem dX3_shows_45 : decode cX3_shows 45 = .ok (.athrow, 1) := by decide +kernel
theorem dX3_shows_46 : decode cX3_shows 46 = .ok (.aload 5, 2) := by decide +kernel
theorem dX3_shows_48 : decode cX3_shows 48 = .ok (.getfield 71, 3) := by decide +kernel
theorem dX3_shows_51 : decode cX3_shows 51 = .ok (.iload_n 3, 1) := by decide +kernel
theorem dX3_shows_52 : decode cX3_shows 52 = .ok (.iload 4, 2) := by decide +kernel
theorem dX3_shows_54 : decode cX3_shows 54 = .ok (.aload 5, 2) := by decide +kernel
theorem dX3_shows_56 : decode cX3_shows 56 = .ok (.iload_n 2, 1) := by decide +kernel
theorem dX3_shows_57 : decode cX3_shows 57 = .ok (.invokevirtual 116, 3) := by decide +kernel
theorem dX3_shows_60 : decode cX3_shows 60 = .ok (.invokevirtual 142, 3) := by decide +kernel
theorem dX3_shows_63 : decode cX3_shows 63 = .ok (.ireturn, 1) := by decide +kernel
set_option maxRecDepth 20000 in
theorem ggX3_colour_X3_sliceAt : GoodIn wsX3_colour wsX3_sliceAt := goodIn_r _ [7, 8, 33, 34, 35, 36, 37, 38, 39, 40] (by decide +kernel) (by decide +kernel)
set_option maxRecDepth 20000 in
theorem gX3_colour_X3_sliceAt : GoodIn wsX3_colour (wsV RX3 146 RX3 yX3_sliceAt wsX3_sliceAt) := goodIn_app (goodIn_of _ (by decide +kernel)) ggX3_colour_X3_sliceAt
set_option maxRecDepth 20000 in
theorem ggX3_colour_X3_isRing : GoodIn wsX3_colour wsX3_isRing := goodIn_r _ [11] (by decide +kernel) (by decide +kernel)
set_option maxRecDepth 20000 in
theorem gX3_colour_X3_isRing : GoodIn wsX3_colour (va_wsS RX3 48 yX3_isRing wsX3_isRing) := goodIn_app (goodIn_of _ (by decide +kernel)) ggX3_colour_X3_isRing
set_option maxRecDepth 20000 in
theorem ggX3_colour_X3_isSector : GoodIn wsX3_colour wsX3_isSector := goodIn_r _ [14] (by decide +kernel) (by decide +kernel)
set_option maxRecDepth 20000 in
theorem gX3_colour_X3_isSector : GoodIn wsX3_colour (va_wsS RX3 52 yX3_isSector wsX3_isSector) := goodIn_app (goodIn_of _ (by decide +kernel)) ggX3_colour_X3_isSector
set_option maxRecDepth 20000 in
theorem ggX3_colour_X1_colourAt : GoodIn wsX3_colour wsX1_colourAt := goodIn_r _ [19, 20, 21, 22, 18, 23, 24, 25, 26, 27, 41] (by decide +kernel) (by decide +kernel)
set_option maxRecDepth 20000 in
theorem gX3_colour_X1_colourAt : GoodIn wsX3_colour (wsV RX3 142 RX1 yX1_colourAt wsX1_colourAt) := goodIn_app (goodIn_of _ (by decide +kernel)) ggX3_colour_X1_colourAt
theorem dX3_colour_0 : decode cX3_colour 0 = .ok (.aload_n 0, 1) := by decide +kernel
theorem dX3_colour_1 : decode cX3_colour 1 = .ok (.iload_n 1, 1) := by decide +kernel
theorem dX3_colour_2 : decode cX3_colour 2 = .ok (.invokevirtual 146, 3) := by decide +kernel
theorem dX3_colour_5 : decode cX3_colour 5 = .ok (.astore 4, 2) := by decide +kernel
theorem dX3_colour_7 : decode cX3_colour 7 = .ok (.aload 4, 2) := by decide +kernel
theorem dX3_colour_9 : decode cX3_colour 9 = .ok (.ifnull 17, 3) := by decide +kernel
theorem dX3_colour_12 : decode cX3_colour 12 = .ok (.iload_n 2, 1) := by decide +kernel
theorem dX3_colour_13 : decode cX3_colour 13 = .ok (.invokestatic 48, 3) := by decide +kernel
theorem dX3_colour_16 : decode cX3_colour 16 = .ok (.ifCond .eq 10, 3) := by decide +kernel
theorem dX3_colour_19 : decode cX3_colour 19 = .ok (.iload_n 3, 1) := by decide +kernel
theorem dX3_colour_20 : decode cX3_colour 20 = .ok (.invokestatic 52, 3) := by decide +kernel
theorem dX3_colour_23 : decode cX3_colour 23 = .ok (.ifCond .ne 13, 3) := by decide +kernel
theorem dX3_colour_26 : decode cX3_colour 26 = .ok (.new 43, 3) := by decide +kernel
theorem dX3_colour_29 : decode cX3_colour 29 = .ok (.dup, 1) := by decide +kernel
theorem dX3_colour_30 : decode cX3_colour 30 = .ok (.ldc 150, 2) := by decide +kernel
theorem dX3_colour_32 : decode cX3_colour 32 = .ok (.invokespecial 47, 3) := by decide +kernel
theorem dX3_colour_35 : decode cX3_colour 35 = .ok (.athrow, 1) := by decide +kernel
theorem dX3_colour_36 : decode cX3_colour 36 = .ok (.aload 4, 2) := by decide +kernel
theorem dX3_colour_38 : decode cX3_colour 38 = .ok (.getfield 152, 3) := by decide +kernel
theorem dX3_colour_41 : decode cX3_colour 41 = .ok (.iload_n 2, 1) := by decide +kernel
theorem dX3_colour_42 : decode cX3_colour 42 = .ok (.iload_n 3, 1) := by decide +kernel
theorem dX3_colour_43 : decode cX3_colour 43 = .ok (.iconst 0, 1) := by decide +kernel
theorem dX3_colour_44 : decode cX3_colour 44 = .ok (.invokevirtual 142, 3) := by decide +kernel
theorem dX3_colour_47 : decode cX3_colour 47 = .ok (.ireturn, 1) := by decide +kernel
set_option maxRecDepth 20000 in
theorem ggX3_where_X3_sliceAt : GoodIn wsX3_where wsX3_sliceAt := goodIn_r _ [7, 8, 14, 15, 16, 17, 18, 19, 20, 21] (by decide +kernel) (by decide +kernel)
set_option maxRecDepth 20000 in
theorem gX3_where_X3_sliceAt : GoodIn wsX3_where (wsV RX3 146 RX3 yX3_sliceAt wsX3_sliceAt) := goodIn_app (goodIn_of _ (by decide +kernel)) ggX3_where_X3_sliceAt
theorem dX3_where_0 : decode cX3_where 0 = .ok (.aload_n 0, 1) := by decide +kernel
theorem dX3_where_1 : decode cX3_where 1 = .ok (.iload_n 1, 1) := by decide +kernel
theorem dX3_where_2 : decode cX3_where 2 = .ok (.invokevirtual 146, 3) := by decide +kernel
theorem dX3_where_5 : decode cX3_where 5 = .ok (.astore_n 2, 1) := by decide +kernel
theorem dX3_where_6 : decode cX3_where 6 = .ok (.aload_n 2, 1) := by decide +kernel
theorem dX3_where_7 : decode cX3_where 7 = .ok (.ifnonnull 13, 3) := by decide +kernel
theorem dX3_where_10 : decode cX3_where 10 = .ok (.new 43, 3) := by decide +kernel
theorem dX3_where_13 : decode cX3_where 13 = .ok (.dup, 1) := by decide +kernel
theorem dX3_where_14 : decode cX3_where 14 = .ok (.ldc 153, 2) := by decide +kernel
theorem dX3_where_16 : decode cX3_where 16 = .ok (.invokespecial 47, 3) := by decide +kernel
theorem dX3_where_19 : decode cX3_where 19 = .ok (.athrow, 1) := by decide +kernel
theorem dX3_where_20 : decode cX3_where 20 = .ok (.aload_n 2, 1) := by decide +kernel
theorem dX3_where_21 : decode cX3_where 21 = .ok (.getfield 155, 3) := by decide +kernel
theorem dX3_where_24 : decode cX3_where 24 = .ok (.ireturn, 1) := by decide +kernel
theorem dX3_bead_0 : decode cX3_bead 0 = .ok (.aload_n 0, 1) := by decide +kernel
theorem dX3_bead_1 : decode cX3_bead 1 = .ok (.getfield 158, 3) := by decide +kernel
theorem dX3_bead_4 : decode cX3_bead 4 = .ok (.bipush 6, 2) := by decide +kernel
theorem dX3_bead_6 : decode cX3_bead 6 = .ok (.if_icmp .lt 13, 3) := by decide +kernel
theorem dX3_bead_9 : decode cX3_bead 9 = .ok (.new 31, 3) := by decide +kernel
theorem dX3_bead_12 : decode cX3_bead 12 = .ok (.dup, 1) := by decide +kernel
theorem dX3_bead_13 : decode cX3_bead 13 = .ok (.ldc 161, 2) := by decide +kernel
theorem dX3_bead_15 : decode cX3_bead 15 = .ok (.invokespecial 35, 3) := by decide +kernel
theorem dX3_bead_18 : decode cX3_bead 18 = .ok (.athrow, 1) := by decide +kernel
theorem dX3_bead_19 : decode cX3_bead 19 = .ok (.aload_n 0, 1) := by decide +kernel
theorem dX3_bead_20 : decode cX3_bead 20 = .ok (.getfield 158, 3) := by decide +kernel
theorem dX3_bead_23 : decode cX3_bead 23 = .ok (.istore_n 1, 1) := by decide +kernel
theorem dX3_bead_24 : decode cX3_bead 24 = .ok (.aload_n 0, 1) := by decide +kernel
theorem dX3_bead_25 : decode cX3_bead 25 = .ok (.dup, 1) := by decide +kernel
theorem dX3_bead_26 : decode cX3_bead 26 = .ok (.getfield 158, 3) := by decide +kernel
theorem dX3_bead_29 : decode cX3_bead 29 = .ok (.iconst 1, 1) := by decide +kernel
theorem dX3_bead_30 : decode cX3_bead 30 = .ok (.iadd, 1) := by decide +kernel
theorem dX3_bead_31 : decode cX3_bead 31 = .ok (.putfield 158, 3) := by decide +kernel
theorem dX3_bead_34 : decode cX3_bead 34 = .ok (.iload_n 1, 1) := by decide +kernel
theorem dX3_bead_35 : decode cX3_bead 35 = .ok (.ireturn, 1) := by decide +kernel
set_option maxRecDepth 20000 in
theorem ggX3_set_X3_sliceAt : GoodIn wsX3_set wsX3_sliceAt := goodIn_r _ [12, 13, 40, 41, 42, 43, 44, 45, 46, 47] (by decide +kernel) (by decide +kernel)
set_option maxRecDepth 20000 in
theorem gX3_set_X3_sliceAt : GoodIn wsX3_set (wsV RX3 146 RX3 yX3_sliceAt wsX3_sliceAt) := goodIn_app (goodIn_of _ (by decide +kernel)) ggX3_set_X3_sliceAt
set_option maxRecDepth 20000 in
theorem ggX3_set_X3_isBead : GoodIn wsX3_set wsX3_isBead := goodIn_r _ [17, 18, 40, 41, 42, 43, 44, 45, 46, 47] (by decide +kernel) (by decide +kernel)
set_option maxRecDepth 20000 in
theorem gX3_set_X3_isBead : GoodIn wsX3_set (wsV RX3 163 RX3 yX3_isBead wsX3_isBead) := goodIn_app (goodIn_of _ (by decide +kernel)) ggX3_set_X3_isBead
set_option maxRecDepth 20000 in
theorem ggX3_set_X3_isEye : GoodIn wsX3_set wsX3_isEye := goodIn_r _ [21] (by decide +kernel) (by decide +kernel)
set_option maxRecDepth 20000 in
theorem gX3_set_X3_isEye : GoodIn wsX3_set (va_wsS RX3 166 yX3_isEye wsX3_isEye) := goodIn_app (goodIn_of _ (by decide +kernel)) ggX3_set_X3_isEye
set_option maxRecDepth 20000 in
theorem ggX3_set_X3_isSector : GoodIn wsX3_set wsX3_isSector := goodIn_r _ [24] (by decide +kernel) (by decide +kernel)
set_option maxRecDepth 20000 in
theorem gX3_set_X3_isSector : GoodIn wsX3_set (va_wsS RX3 52 yX3_isSector wsX3_isSector) := goodIn_app (goodIn_of _ (by decide +kernel)) ggX3_set_X3_isSector
set_option maxRecDepth 20000 in
theorem ggX3_set_X2_isFree : GoodIn wsX3_set wsX2_isFree := goodIn_r _ [29, 30, 48, 49, 50, 51, 52] (by decide +kernel) (by decide +kernel)
set_option maxRecDepth 20000 in
theorem gX3_set_X2_isFree : GoodIn wsX3_set (wsV RX3 173 RX2 yX2_isFree wsX2_isFree) := goodIn_app (goodIn_of _ (by decide +kernel)) ggX3_set_X2_isFree
set_option maxRecDepth 20000 in
theorem ggX3_set_X2_enter : GoodIn wsX3_set wsX2_enter := goodIn_r _ [34, 30, 35, 48, 49, 50, 51, 52] (by decide +kernel) (by decide +kernel)
set_option maxRecDepth 20000 in
theorem gX3_set_X2_enter : GoodIn wsX3_set (wsV RX3 179 RX2 yX2_enter wsX2_enter) := goodIn_app (goodIn_of _ (by decide +kernel)) ggX3_set_X2_enter
set_option maxRecDepth 20000 in
theorem ggX3_set_X3_filledEyes : GoodIn wsX3_set wsX3_filledEyes := goodIn_r _ [39, 7, 40, 41, 42, 43, 44, 45, 46, 47] (by decide +kernel) (by decide +kernel)
set_option maxRecDepth 20000 in
theorem gX3_set_X3_filledEyes : GoodIn wsX3_set (wsV RX3 183 RX3 yX3_filledEyes wsX3_filledEyes) := goodIn_app (goodIn_of _ (by decide +kernel)) ggX3_set_X3_filledEyes
theorem dX3_set_0 : decode cX3_set 0 = .ok (.aload_n 0, 1) := by decide +kernel
theorem dX3_set_1 : decode cX3_set 1 = .ok (.iload_n 3, 1) := by decide +kernel
theorem dX3_set_2 : decode cX3_set 2 = .ok (.invokevirtual 146, 3) := by decide +kernel
theorem dX3_set_5 : decode cX3_set 5 = .ok (.astore 5, 2) := by decide +kernel
theorem dX3_set_7 : decode cX3_set 7 = .ok (.aload_n 0, 1) := by decide +kernel
theorem dX3_set_8 : decode cX3_set 8 = .ok (.iload_n 1, 1) := by decide +kernel
theorem dX3_set_9 : decode cX3_set 9 = .ok (.invokevirtual 163, 3) := by decide +kernel
theorem dX3_set_12 : decode cX3_set 12 = .ok (.ifCond .eq 15, 3) := by decide +kernel
theorem dX3_set_15 : decode cX3_set 15 = .ok (.iload_n 2, 1) := by decide +kernel
theorem dX3_set_16 : decode cX3_set 16 = .ok (.invokestatic 166, 3) := by decide +kernel
theorem dX3_set_19 : decode cX3_set 19 = .ok (.ifCond .eq 8, 3) := by decide +kernel
theorem dX3_set_22 : decode cX3_set 22 = .ok (.aload 5, 2) := by decide +kernel
theorem dX3_set_24 : decode cX3_set 24 = .ok (.ifnonnull 13, 3) := by decide +kernel
theorem dX3_set_27 : decode cX3_set 27 = .ok (.new 43, 3) := by decide +kernel
theorem dX3_set_30 : decode cX3_set 30 = .ok (.dup, 1) := by decide +kernel
theorem dX3_set_31 : decode cX3_set 31 = .ok (.ldc 169, 2) := by decide +kernel
theorem dX3_set_33 : decode cX3_set 33 = .ok (.invokespecial 47, 3) := by decide +kernel
theorem dX3_set_36 : decode cX3_set 36 = .ok (.athrow, 1) := by decide +kernel
theorem dX3_set_37 : decode cX3_set 37 = .ok (.iload 4, 2) := by decide +kernel
theorem dX3_set_39 : decode cX3_set 39 = .ok (.invokestatic 52, 3) := by decide +kernel
theorem dX3_set_42 : decode cX3_set 42 = .ok (.ifCond .ne 13, 3) := by decide +kernel
theorem dX3_set_45 : decode cX3_set 45 = .ok (.new 55, 3) := by decide +kernel
theorem dX3_set_48 : decode cX3_set 48 = .ok (.dup, 1) := by decide +kernel
theorem dX3_set_49 : decode cX3_set 49 = .ok (.ldc 171, 2) := by decide +kernel
theorem dX3_set_51 : decode cX3_set 51 = .ok (.invokespecial 59, 3) := by decide +kernel
theorem dX3_set_54 : decode cX3_set 54 = .ok (.athrow, 1) := by decide +kernel
theorem dX3_set_55 : decode cX3_set 55 = .ok (.iconst 4, 1) := by decide +kernel
theorem dX3_set_56 : decode cX3_set 56 = .ok (.iload_n 1, 1) := by decide +kernel
theorem dX3_set_57 : decode cX3_set 57 = .ok (.imul, 1) := by decide +kernel
theorem dX3_set_58 : decode cX3_set 58 = .ok (.iload_n 2, 1) := by decide +kernel
theorem dX3_set_59 : decode cX3_set 59 = .ok (.iadd, 1) := by decide +kernel
theorem dX3_set_60 : decode cX3_set 60 = .ok (.istore 6, 2) := by decide +kernel
theorem dX3_set_62 : decode cX3_set 62 = .ok (.aload_n 0, 1) := by decide +kernel
theorem dX3_set_63 : decode cX3_set 63 = .ok (.getfield 21, 3) := by decide +kernel
theorem dX3_set_66 : decode cX3_set 66 = .ok (.iload 6, 2) := by decide +kernel
theorem dX3_set_68 : decode cX3_set 68 = .ok (.aaload, 1) := by decide +kernel
theorem dX3_set_69 : decode cX3_set 69 = .ok (.ifnonnull 11, 3) := by decide +kernel
theorem dX3_set_72 : decode cX3_set 72 = .ok (.aload 5, 2) := by decide +kernel
theorem dX3_set_74 : decode cX3_set 74 = .ok (.invokevirtual 173, 3) := by decide +kernel
theorem dX3_set_77 : decode cX3_set 77 = .ok (.ifCond .ne 13, 3) := by decide +kernel
theorem dX3_set_80 : decode cX3_set 80 = .ok (.new 31, 3) := by decide +kernel
theorem dX3_set_83 : decode cX3_set 83 = .ok (.dup, 1) := by decide +kernel
theorem dX3_set_84 : decode cX3_set 84 = .ok (.ldc 177, 2) := by decide +kernel
theorem dX3_set_86 : decode cX3_set 86 = .ok (.invokespecial 35, 3) := by decide +kernel
theorem dX3_set_89 : decode cX3_set 89 = .ok (.athrow, 1) := by decide +kernel
theorem dX3_set_90 : decode cX3_set 90 = .ok (.aload_n 0, 1) := by decide +kernel
theorem dX3_set_91 : decode cX3_set 91 = .ok (.getfield 21, 3) := by decide +kernel
theorem dX3_set_94 : decode cX3_set 94 = .ok (.iload 6, 2) := by decide +kernel
theorem dX3_set_96 : decode cX3_set 96 = .ok (.aload 5, 2) := by decide +kernel
theorem dX3_set_98 : decode cX3_set 98 = .ok (.aastore, 1) := by decide +kernel
theorem dX3_set_99 : decode cX3_set 99 = .ok (.aload 5, 2) := by decide +kernel
theorem dX3_set_101 : decode cX3_set 101 = .ok (.iload 6, 2) := by decide +kernel
theorem dX3_set_103 : decode cX3_set 103 = .ok (.iload 4, 2) := by decide +kernel
theorem dX3_set_105 : decode cX3_set 105 = .ok (.invokevirtual 179, 3) := by decide +kernel
theorem dX3_set_108 : decode cX3_set 108 = .ok (.aload_n 0, 1) := by decide +kernel
theorem dX3_set_109 : decode cX3_set 109 = .ok (.iload_n 1, 1) := by decide +kernel
theorem dX3_set_110 : decode cX3_set 110 = .ok (.invokevirtual 183, 3) := by decide +kernel
theorem dX3_set_113 : decode cX3_set 113 = .ok (.ireturn, 1) := by decide +kernel
set_option maxRecDepth 20000 in
theorem ggX3_seen_X3_isBead : GoodIn wsX3_seen wsX3_isBead := goodIn_r _ [8, 9, 32, 33, 34, 35, 36, 37, 38, 39] (by decide +kernel) (by decide +kernel)
set_option maxRecDepth 20000 in
theorem gX3_seen_X3_isBead : GoodIn wsX3_seen (wsV RX3 163 RX3 yX3_isBead wsX3_isBead) := goodIn_app (goodIn_of _ (by decide +kernel)) ggX3_seen_X3_isBead
set_option maxRecDepth 20000 in
theorem ggX3_seen_X3_isEye : GoodIn wsX3_seen wsX3_isEye := goodIn_r _ [12] (by decide +kernel) (by decide +kernel)
set_option maxRecDepth 20000 in
theorem gX3_seen_X3_isEye : GoodIn wsX3_seen (va_wsS RX3 166 yX3_isEye wsX3_isEye) := goodIn_app (goodIn_of _ (by decide +kernel)) ggX3_seen_X3_isEye
set_option maxRecDepth 20000 in
theorem ggX3_seen_X3_isRing : GoodIn wsX3_seen wsX3_isRing := goodIn_r _ [15] (by decide +kernel) (by decide +kernel)
set_option maxRecDepth 20000 in
theorem gX3_seen_X3_isRing : GoodIn wsX3_seen (va_wsS RX3 48 yX3_isRing wsX3_isRing) := goodIn_app (goodIn_of _ (by decide +kernel)) ggX3_seen_X3_isRing
set_option maxRecDepth 20000 in
theorem ggX3_seen_X3_isSector : GoodIn wsX3_seen wsX3_isSector := goodIn_r _ [18] (by decide +kernel) (by decide +kernel)
set_option maxRecDepth 20000 in
theorem gX3_seen_X3_isSector : GoodIn wsX3_seen (va_wsS RX3 52 yX3_isSector wsX3_isSector) := goodIn_app (goodIn_of _ (by decide +kernel)) ggX3_seen_X3_isSector
set_option maxRecDepth 20000 in
theorem ggX3_seen_X1_colourAt : GoodIn wsX3_seen wsX1_colourAt := goodIn_r _ [23, 24, 25, 26, 22, 27, 28, 29, 30, 31, 45] (by decide +kernel) (by decide +kernel)
set_option maxRecDepth 20000 in
theorem gX3_seen_X1_colourAt : GoodIn wsX3_seen (wsV RX3 142 RX1 yX1_colourAt wsX1_colourAt) := goodIn_app (goodIn_of _ (by decide +kernel)) ggX3_seen_X1_colourAt
theorem dX3_seen_0 : decode cX3_seen 0 = .ok (.aload_n 0, 1) := by decide +kernel
theorem dX3_seen_1 : decode cX3_seen 1 = .ok (.iload_n 1, 1) := by decide +kernel
theorem dX3_seen_2 : decode cX3_seen 2 = .ok (.invokevirtual 163, 3) := by decide +kernel
theorem dX3_seen_5 : decode cX3_seen 5 = .ok (.ifCond .eq 25, 3) := by decide +kernel
theorem dX3_seen_8 : decode cX3_seen 8 = .ok (.iload_n 2, 1) := by decide +kernel
theorem dX3_seen_9 : decode cX3_seen 9 = .ok (.invokestatic 166, 3) := by decide +kernel
theorem dX3_seen_12 : decode cX3_seen 12 = .ok (.ifCond .eq 18, 3) := by decide +kernel
theorem dX3_seen_15 : decode cX3_seen 15 = .ok (.iload_n 3, 1) := by decide +kernel
theorem dX3_seen_16 : decode cX3_seen 16 = .ok (.invokestatic 48, 3) := by decide +kernel
theorem dX3_seen_19 : decode cX3_seen 19 = .ok (.ifCond .eq 11, 3) := by decide +kernel
theorem dX3_seen_22 : decode cX3_seen 22 = .ok (.iload 4, 2) := by decide +kernel
theorem dX3_seen_24 : decode cX3_seen 24 = .ok (.invokestatic 52, 3) := by decide +kernel
theorem dX3_seen_27 : decode cX3_seen 27 = .ok (.ifCond .ne 13, 3) := by decide +kernel
theorem dX3_seen_30 : decode cX3_seen 30 = .ok (.new 43, 3) := by decide +kernel
theorem dX3_seen_33 : decode cX3_seen 33 = .ok (.dup, 1) := by decide +kernel
theorem dX3_seen_34 : decode cX3_seen 34 = .ok (.ldc 196, 2) := by decide +kernel
theorem dX3_seen_36 : decode cX3_seen 36 = .ok (.invokespecial 47, 3) := by decide +kernel
theorem dX3_seen_39 : decode cX3_seen 39 = .ok (.athrow, 1) := by decide +kernel
theorem dX3_seen_40 : decode cX3_seen 40 = .ok (.aload_n 0, 1) := by decide +kernel
theorem dX3_seen_41 : decode cX3_seen 41 = .ok (.getfield 21, 3) := by decide +kernel
theorem dX3_seen_44 : decode cX3_seen 44 = .ok (.iconst 4, 1) := by decide +kernel
theorem dX3_seen_45 : decode cX3_seen 45 = .ok (.iload_n 1, 1) := by decide +kernel
theorem dX3_seen_46 : decode cX3_seen 46 = .ok (.imul, 1) := by decide +kernel
theorem dX3_seen_47 : decode cX3_seen 47 = .ok (.iload_n 2, 1) := by decide +kernel
theorem dX3_seen_48 : decode cX3_seen 48 = .ok (.iadd, 1) := by decide +kernel
theorem dX3_seen_49 : decode cX3_seen 49 = .ok (.aaload, 1) := by decide +kernel
theorem dX3_seen_50 : decode cX3_seen 50 = .ok (.astore 5, 2) := by decide +kernel
theorem dX3_seen_52 : decode cX3_seen 52 = .ok (.aload 5, 2) := by decide +kernel
theorem dX3_seen_54 : decode cX3_seen 54 = .ok (.ifnonnull 7, 3) := by decide +kernel
theorem dX3_seen_57 : decode cX3_seen 57 = .ok (.iconst (-1), 1) := by decide +kernel
theorem dX3_seen_58 : decode cX3_seen 58 = .ok (.goto 19, 3) := by decide +kernel
theorem dX3_seen_61 : decode cX3_seen 61 = .ok (.aload 5, 2) := by decide +kernel
theorem dX3_seen_63 : decode cX3_seen 63 = .ok (.getfield 152, 3) := by decide +kernel
theorem dX3_seen_66 : decode cX3_seen 66 = .ok (.iload_n 3, 1) := by decide +kernel
theorem dX3_seen_67 : decode cX3_seen 67 = .ok (.iload 4, 2) := by decide +kernel
theorem dX3_seen_69 : decode cX3_seen 69 = .ok (.aload 5, 2) := by decide +kernel
theorem dX3_seen_71 : decode cX3_seen 71 = .ok (.getfield 198, 3) := by decide +kernel
theorem dX3_seen_74 : decode cX3_seen 74 = .ok (.invokevirtual 142, 3) := by decide +kernel
theorem dX3_seen_77 : decode cX3_seen 77 = .ok (.ireturn, 1) := by decide +kernel
set_option maxRecDepth 20000 in
theorem ggX3_count_X3_tally : GoodIn wsX3_count wsX3_tally := goodIn_r _ [7, 8, 9, 10, 11, 12, 13, 14, 6, 15, 16, 17, 18, 19, 20, 21, 22, 23, 24, 25, 26, 27, 28, 29, 30, 31, 32, 33, 34, 35, 36, 37, 38, 39, 40, 41, 42, 43, 44, 45, 46, 47, 48, 49, 50, 51, 52, 53, 54, 55, 56, 57, 58, 59, 60, 61, 62, 63, 64, 65, 66, 67, 68, 69] (by decide +kernel) (by decide +kernel)
set_option maxRecDepth 20000 in
theorem gX3_count_X3_tally : GoodIn wsX3_count (wsV RX3 203 RX3 yX3_tally wsX3_tally) := goodIn_app (goodIn_of _ (by decide +kernel)) ggX3_count_X3_tally
theorem dX3_count_0 : decode cX3_count 0 = .ok (.iload_n 1, 1) := by decide +kernel
theorem dX3_count_1 : decode cX3_count 1 = .ok (.ifCond .lt 9, 3) := by decide +kernel
theorem dX3_count_4 : decode cX3_count 4 = .ok (.iload_n 1, 1) := by decide +kernel
theorem dX3_count_5 : decode cX3_count 5 = .ok (.bipush 8, 2) := by decide +kernel
theorem dX3_count_7 : decode cX3_count 7 = .ok (.if_icmp .lt 13, 3) := by decide +kernel
theorem dX3_count_10 : decode cX3_count 10 = .ok (.new 43, 3) := by decide +kernel
theorem dX3_count_13 : decode cX3_count 13 = .ok (.dup, 1) := by decide +kernel
theorem dX3_count_14 : decode cX3_count 14 = .ok (.ldc 201, 2) := by decide +kernel
theorem dX3_count_16 : decode cX3_count 16 = .ok (.invokespecial 47, 3) := by decide +kernel
theorem dX3_count_19 : decode cX3_count 19 = .ok (.athrow, 1) := by decide +kernel
theorem dX3_count_20 : decode cX3_count 20 = .ok (.aload_n 0, 1) := by decide +kernel
theorem dX3_count_21 : decode cX3_count 21 = .ok (.iload_n 1, 1) := by decide +kernel
theorem dX3_count_22 : decode cX3_count 22 = .ok (.invokevirtual 203, 3) := by decide +kernel
theorem dX3_count_25 : decode cX3_count 25 = .ok (.ireturn, 1) := by decide +kernel
set_option maxRecDepth 20000 in
theorem ggX3_turn_X3_sliceAt : GoodIn wsX3_turn wsX3_sliceAt := goodIn_r _ [7, 8, 35, 36, 37, 38, 39, 40, 41, 42] (by decide +kernel) (by decide +kernel)
set_option maxRecDepth 20000 in
theorem gX3_turn_X3_sliceAt : GoodIn wsX3_turn (wsV RX3 146 RX3 yX3_sliceAt wsX3_sliceAt) := goodIn_app (goodIn_of _ (by decide +kernel)) ggX3_turn_X3_sliceAt
set_option maxRecDepth 20000 in
theorem ggX3_turn_X1_leastTurnTo : GoodIn wsX3_turn wsX1_leastTurnTo := goodIn_r _ [13, 14, 15, 16, 12, 17, 18, 19, 20, 21, 22, 23, 24, 25, 26, 27, 28, 29, 43] (by decide +kernel) (by decide +kernel)
set_option maxRecDepth 20000 in
theorem gX3_turn_X1_leastTurnTo : GoodIn wsX3_turn (wsV RX3 212 RX1 yX1_leastTurnTo wsX1_leastTurnTo) := goodIn_app (goodIn_of _ (by decide +kernel)) ggX3_turn_X1_leastTurnTo
theorem dX3_turn_0 : decode cX3_turn 0 = .ok (.aload_n 0, 1) := by decide +kernel
theorem dX3_turn_1 : decode cX3_turn 1 = .ok (.iload_n 1, 1) := by decide +kernel
theorem dX3_turn_2 : decode cX3_turn 2 = .ok (.invokevirtual 146, 3) := by decide +kernel
theorem dX3_turn_5 : decode cX3_turn 5 = .ok (.astore_n 3, 1) := by decide +kernel
theorem dX3_turn_6 : decode cX3_turn 6 = .ok (.aload_n 0, 1) := by decide +kernel
theorem dX3_turn_7 : decode cX3_turn 7 = .ok (.iload_n 2, 1) := by decide +kernel
theorem dX3_turn_8 : decode cX3_turn 8 = .ok (.invokevirtual 146, 3) := by decide +kernel
theorem dX3_turn_11 : decode cX3_turn 11 = .ok (.astore 4, 2) := by decide +kernel
theorem dX3_turn_13 : decode cX3_turn 13 = .ok (.aload_n 3, 1) := by decide +kernel
theorem dX3_turn_14 : decode cX3_turn 14 = .ok (.ifnull 8, 3) := by decide +kernel
theorem dX3_turn_17 : decode cX3_turn 17 = .ok (.aload 4, 2) := by decide +kernel
theorem dX3_turn_19 : decode cX3_turn 19 = .ok (.ifnonnull 13, 3) := by decide +kernel
theorem dX3_turn_22 : decode cX3_turn 22 = .ok (.new 43, 3) := by decide +kernel
theorem dX3_turn_25 : decode cX3_turn 25 = .ok (.dup, 1) := by decide +kernel
theorem dX3_turn_26 : decode cX3_turn 26 = .ok (.ldc 153, 2) := by decide +kernel
theorem dX3_turn_28 : decode cX3_turn 28 = .ok (.invokespecial 47, 3) := by decide +kernel
theorem dX3_turn_31 : decode cX3_turn 31 = .ok (.athrow, 1) := by decide +kernel
theorem dX3_turn_32 : decode cX3_turn 32 = .ok (.aload_n 3, 1) := by decide +kernel
theorem dX3_turn_33 : decode cX3_turn 33 = .ok (.getfield 152, 3) := by decide +kernel
theorem dX3_turn_36 : decode cX3_turn 36 = .ok (.aload 4, 2) := by decide +kernel
theorem dX3_turn_38 : decode cX3_turn 38 = .ok (.getfield 152, 3) := by decide +kernel
theorem dX3_turn_41 : decode cX3_turn 41 = .ok (.invokevirtual 212, 3) := by decide +kernel
theorem dX3_turn_44 : decode cX3_turn 44 = .ok (.ireturn, 1) := by decide +kernel
set_option maxRecDepth 20000 in
theorem ggX3_cuts_X3_caneAt : GoodIn wsX3_cuts wsX3_caneAt := goodIn_r _ [7, 8, 47, 48, 49, 50, 51, 52, 53, 54] (by decide +kernel) (by decide +kernel)
set_option maxRecDepth 20000 in
theorem gX3_cuts_X3_caneAt : GoodIn wsX3_cuts (wsV RX3 39 RX3 yX3_caneAt wsX3_caneAt) := goodIn_app (goodIn_of _ (by decide +kernel)) ggX3_cuts_X3_caneAt
set_option maxRecDepth 20000 in
theorem ggX3_cuts_X3_sliceAt : GoodIn wsX3_cuts wsX3_sliceAt := goodIn_r _ [12, 13, 47, 48, 49, 50, 51, 52, 53, 54] (by decide +kernel) (by decide +kernel)
set_option maxRecDepth 20000 in
theorem gX3_cuts_X3_sliceAt : GoodIn wsX3_cuts (wsV RX3 146 RX3 yX3_sliceAt wsX3_sliceAt) := goodIn_app (goodIn_of _ (by decide +kernel)) ggX3_cuts_X3_sliceAt
set_option maxRecDepth 20000 in
theorem ggX3_cuts_X0_turnAt : GoodIn wsX3_cuts wsX0_turnAt := goodIn_r _ [18, 19, 37, 38, 39, 40, 41] (by decide +kernel) (by decide +kernel)
set_option maxRecDepth 20000 in
theorem gX3_cuts_X0_turnAt : GoodIn wsX3_cuts (wsV RX3 116 RX0 yX0_turnAt wsX0_turnAt) := goodIn_app (goodIn_of _ (by decide +kernel)) ggX3_cuts_X0_turnAt
set_option maxRecDepth 20000 in
theorem ggX3_cuts_X1_looksLike : GoodIn wsX3_cuts wsX1_looksLike := goodIn_r _ [24, 25, 26, 27, 28, 23, 29, 30, 31, 32, 33, 34, 35, 36, 55] (by decide +kernel) (by decide +kernel)
set_option maxRecDepth 20000 in
theorem gX3_cuts_X1_looksLike : GoodIn wsX3_cuts (wsV RX3 208 RX1 yX1_looksLike wsX1_looksLike) := goodIn_app (goodIn_of _ (by decide +kernel)) ggX3_cuts_X1_looksLike
theorem dX3_cuts_0 : decode cX3_cuts 0 = .ok (.aload_n 0, 1) := by decide +kernel
theorem dX3_cuts_1 : decode cX3_cuts 1 = .ok (.iload_n 1, 1) := by decide +kernel
theorem dX3_cuts_2 : decode cX3_cuts 2 = .ok (.invokevirtual 39, 3) := by decide +kernel
theorem dX3_cuts_5 : decode cX3_cuts 5 = .ok (.astore_n 3, 1) := by decide +kernel
theorem dX3_cuts_6 : decode cX3_cuts 6 = .ok (.aload_n 0, 1) := by decide +kernel
theorem dX3_cuts_7 : decode cX3_cuts 7 = .ok (.iload_n 2, 1) := by decide +kernel
theorem dX3_cuts_8 : decode cX3_cuts 8 = .ok (.invokevirtual 146, 3) := by decide +kernel
theorem dX3_cuts_11 : decode cX3_cuts 11 = .ok (.astore 4, 2) := by decide +kernel
theorem dX3_cuts_13 : decode cX3_cuts 13 = .ok (.aload_n 3, 1) := by decide +kernel
theorem dX3_cuts_14 : decode cX3_cuts 14 = .ok (.ifnull 8, 3) := by decide +kernel
theorem dX3_cuts_17 : decode cX3_cuts 17 = .ok (.aload 4, 2) := by decide +kernel
theorem dX3_cuts_19 : decode cX3_cuts 19 = .ok (.ifnonnull 13, 3) := by decide +kernel
theorem dX3_cuts_22 : decode cX3_cuts 22 = .ok (.new 43, 3) := by decide +kernel
theorem dX3_cuts_25 : decode cX3_cuts 25 = .ok (.dup, 1) := by decide +kernel
theorem dX3_cuts_26 : decode cX3_cuts 26 = .ok (.ldc 215, 2) := by decide +kernel
theorem dX3_cuts_28 : decode cX3_cuts 28 = .ok (.invokespecial 47, 3) := by decide +kernel
theorem dX3_cuts_31 : decode cX3_cuts 31 = .ok (.athrow, 1) := by decide +kernel
theorem dX3_cuts_32 : decode cX3_cuts 32 = .ok (.iconst 1, 1) := by decide +kernel
theorem dX3_cuts_33 : decode cX3_cuts 33 = .ok (.istore 5, 2) := by decide +kernel
theorem dX3_cuts_35 : decode cX3_cuts 35 = .ok (.iload 5, 2) := by decide +kernel
theorem dX3_cuts_37 : decode cX3_cuts 37 = .ok (.aload_n 3, 1) := by decide +kernel
theorem dX3_cuts_38 : decode cX3_cuts 38 = .ok (.getfield 103, 3) := by decide +kernel
theorem dX3_cuts_41 : decode cX3_cuts 41 = .ok (.if_icmp .gt 38, 3) := by decide +kernel
theorem dX3_cuts_44 : decode cX3_cuts 44 = .ok (.aload_n 3, 1) := by decide +kernel
theorem dX3_cuts_45 : decode cX3_cuts 45 = .ok (.getfield 71, 3) := by decide +kernel
theorem dX3_cuts_48 : decode cX3_cuts 48 = .ok (.aload 4, 2) := by decide +kernel
theorem dX3_cuts_50 : decode cX3_cuts 50 = .ok (.getfield 152, 3) := by decide +kernel
theorem dX3_cuts_53 : decode cX3_cuts 53 = .ok (.aload_n 3, 1) := by decide +kernel
theorem dX3_cuts_54 : decode cX3_cuts 54 = .ok (.aload_n 3, 1) := by decide +kernel
theorem dX3_cuts_55 : decode cX3_cuts 55 = .ok (.getfield 103, 3) := by decide +kernel
theorem dX3_cuts_58 : decode cX3_cuts 58 = .ok (.iload 5, 2) := by decide +kernel
theorem dX3_cuts_60 : decode cX3_cuts 60 = .ok (.isub, 1) := by decide +kernel
theorem dX3_cuts_61 : decode cX3_cuts 61 = .ok (.invokevirtual 116, 3) := by decide +kernel
theorem dX3_cuts_64 : decode cX3_cuts 64 = .ok (.invokevirtual 208, 3) := by decide +kernel
theorem dX3_cuts_67 : decode cX3_cuts 67 = .ok (.ifCond .eq 6, 3) := by decide +kernel
theorem dX3_cuts_70 : decode cX3_cuts 70 = .ok (.iload 5, 2) := by decide +kernel
theorem dX3_cuts_72 : decode cX3_cuts 72 = .ok (.ireturn, 1) := by decide +kernel
theorem dX3_cuts_73 : decode cX3_cuts 73 = .ok (.iinc 5 1, 3) := by decide +kernel
theorem dX3_cuts_76 : decode cX3_cuts 76 = .ok (.goto (-41), 3) := by decide +kernel
theorem dX3_cuts_79 : decode cX3_cuts 79 = .ok (.iconst (-1), 1) := by decide +kernel
theorem dX3_cuts_80 : decode cX3_cuts 80 = .ok (.ireturn, 1) := by decide +kernel
