theorem dX4_shows_26 : decode cX4_shows 26 = .ok (.ifCond .eq 12, 3) := by decide +kernel
theorem dX4_shows_29 : decode cX4_shows 29 = .ok (.iload_n 3, 1) := by decide +kernel
theorem dX4_shows_30 : decode cX4_shows 30 = .ok (.iload 4, 2) := by decide +kernel
theorem dX4_shows_32 : decode cX4_shows 32 = .ok (.invokestatic 87, 3) := by decide +kernel
theorem dX4_shows_35 : decode cX4_shows 35 = .ok (.ifCond .ne 9, 3) := by decide +kernel
theorem dX4_shows_38 : decode cX4_shows 38 = .ok (.aload_n 0, 1) := by decide +kernel
theorem dX4_shows_39 : decode cX4_shows 39 = .ok (.iconst 1, 1) := by decide +kernel
theorem dX4_shows_40 : decode cX4_shows 40 = .ok (.invokevirtual 67, 3) := by decide +kernel
theorem dX4_shows_43 : decode cX4_shows 43 = .ok (.ireturn, 1) := by decide +kernel
theorem dX4_shows_44 : decode cX4_shows 44 = .ok (.aload_n 0, 1) := by decide +kernel
theorem dX4_shows_45 : decode cX4_shows 45 = .ok (.getfield 26, 3) := by decide +kernel
theorem dX4_shows_48 : decode cX4_shows 48 = .ok (.iconst 3, 1) := by decide +kernel
theorem dX4_shows_49 : decode cX4_shows 49 = .ok (.iload_n 1, 1) := by decide +kernel
theorem dX4_shows_50 : decode cX4_shows 50 = .ok (.imul, 1) := by decide +kernel
theorem dX4_shows_51 : decode cX4_shows 51 = .ok (.iload_n 3, 1) := by decide +kernel
theorem dX4_shows_52 : decode cX4_shows 52 = .ok (.iadd, 1) := by decide +kernel
theorem dX4_shows_53 : decode cX4_shows 53 = .ok (.iaload, 1) := by decide +kernel
theorem dX4_shows_54 : decode cX4_shows 54 = .ok (.aload_n 0, 1) := by decide +kernel
theorem dX4_shows_55 : decode cX4_shows 55 = .ok (.getfield 17, 3) := by decide +kernel
theorem dX4_shows_58 : decode cX4_shows 58 = .ok (.iload_n 1, 1) := by decide +kernel
theorem dX4_shows_59 : decode cX4_shows 59 = .ok (.iaload, 1) := by decide +kernel
theorem dX4_shows_60 : decode cX4_shows 60 = .ok (.iload_n 2, 1) := by decide +kernel
theorem dX4_shows_61 : decode cX4_shows 61 = .ok (.imul, 1) := by decide +kernel
theorem dX4_shows_62 : decode cX4_shows 62 = .ok (.invokestatic 64, 3) := by decide +kernel
theorem dX4_shows_65 : decode cX4_shows 65 = .ok (.iload 4, 2) := by decide +kernel
theorem dX4_shows_67 : decode cX4_shows 67 = .ok (.invokestatic 101, 3) := by decide +kernel
theorem dX4_shows_70 : decode cX4_shows 70 = .ok (.ireturn, 1) := by decide +kernel
set_option maxRecDepth 20000 in
theorem ggX4_colour_X4_isSlice : GoodIn wsX4_colour wsX4_isSlice := goodIn_r _ [7, 8, 9, 10, 6, 11, 22, 23, 24, 25, 26, 27, 28, 29, 30, 31, 32, 33, 34, 35, 36] (by decide +kernel) (by decide +kernel)
set_option maxRecDepth 20000 in
theorem gX4_colour_X4_isSlice : GoodIn wsX4_colour (wsV RX4 104 RX4 yX4_isSlice wsX4_isSlice) := goodIn_app (goodIn_of _ (by decide +kernel)) ggX4_colour_X4_isSlice
set_option maxRecDepth 20000 in
theorem ggX4_colour_X4_isSpot : GoodIn wsX4_colour wsX4_isSpot := goodIn_r _ [14, 9, 10, 6, 11] (by decide +kernel) (by decide +kernel)
set_option maxRecDepth 20000 in
theorem gX4_colour_X4_isSpot : GoodIn wsX4_colour (va_wsS RX4 87 yX4_isSpot wsX4_isSpot) := goodIn_app (goodIn_of _ (by decide +kernel)) ggX4_colour_X4_isSpot
set_option maxRecDepth 20000 in
theorem ggX4_colour_X4_colourOf : GoodIn wsX4_colour wsX4_colourOf := goodIn_r _ [17] (by decide +kernel) (by decide +kernel)
set_option maxRecDepth 20000 in
theorem gX4_colour_X4_colourOf : GoodIn wsX4_colour (va_wsS RX4 101 yX4_colourOf wsX4_colourOf) := goodIn_app (goodIn_of _ (by decide +kernel)) ggX4_colour_X4_colourOf
set_option maxRecDepth 20000 in
theorem ggX4_colour_X4_no : GoodIn wsX4_colour wsX4_no := goodIn_r _ [21, 1, 22, 23, 24, 25, 26, 27, 28, 29, 30, 31, 32, 33, 34, 35, 36] (by decide +kernel) (by decide +kernel)
set_option maxRecDepth 20000 in
theorem gX4_colour_X4_no : GoodIn wsX4_colour (wsV RX4 67 RX4 yX4_no wsX4_no) := goodIn_app (goodIn_of _ (by decide +kernel)) ggX4_colour_X4_no
theorem dX4_colour_0 : decode cX4_colour 0 = .ok (.aload_n 0, 1) := by decide +kernel
theorem dX4_colour_1 : decode cX4_colour 1 = .ok (.iconst 0, 1) := by decide +kernel
theorem dX4_colour_2 : decode cX4_colour 2 = .ok (.putfield 41, 3) := by decide +kernel
theorem dX4_colour_5 : decode cX4_colour 5 = .ok (.aload_n 0, 1) := by decide +kernel
theorem dX4_colour_6 : decode cX4_colour 6 = .ok (.iload_n 1, 1) := by decide +kernel
theorem dX4_colour_7 : decode cX4_colour 7 = .ok (.invokevirtual 104, 3) := by decide +kernel
theorem dX4_colour_10 : decode cX4_colour 10 = .ok (.ifCond .eq 28, 3) := by decide +kernel
theorem dX4_colour_13 : decode cX4_colour 13 = .ok (.iload_n 2, 1) := by decide +kernel
theorem dX4_colour_14 : decode cX4_colour 14 = .ok (.iload_n 3, 1) := by decide +kernel
theorem dX4_colour_15 : decode cX4_colour 15 = .ok (.invokestatic 87, 3) := by decide +kernel
theorem dX4_colour_18 : decode cX4_colour 18 = .ok (.ifCond .eq 20, 3) := by decide +kernel
theorem dX4_colour_21 : decode cX4_colour 21 = .ok (.aload_n 0, 1) := by decide +kernel
theorem dX4_colour_22 : decode cX4_colour 22 = .ok (.getfield 29, 3) := by decide +kernel
theorem dX4_colour_25 : decode cX4_colour 25 = .ok (.iconst 3, 1) := by decide +kernel
theorem dX4_colour_26 : decode cX4_colour 26 = .ok (.iload_n 1, 1) := by decide +kernel
theorem dX4_colour_27 : decode cX4_colour 27 = .ok (.imul, 1) := by decide +kernel
theorem dX4_colour_28 : decode cX4_colour 28 = .ok (.iload_n 2, 1) := by decide +kernel
theorem dX4_colour_29 : decode cX4_colour 29 = .ok (.iadd, 1) := by decide +kernel
theorem dX4_colour_30 : decode cX4_colour 30 = .ok (.iaload, 1) := by decide +kernel
theorem dX4_colour_31 : decode cX4_colour 31 = .ok (.iload_n 3, 1) := by decide +kernel
theorem dX4_colour_32 : decode cX4_colour 32 = .ok (.invokestatic 101, 3) := by decide +kernel
theorem dX4_colour_35 : decode cX4_colour 35 = .ok (.goto 8, 3) := by decide +kernel
theorem dX4_colour_38 : decode cX4_colour 38 = .ok (.aload_n 0, 1) := by decide +kernel
theorem dX4_colour_39 : decode cX4_colour 39 = .ok (.iconst 1, 1) := by decide +kernel
theorem dX4_colour_40 : decode cX4_colour 40 = .ok (.invokevirtual 67, 3) := by decide +kernel
theorem dX4_colour_43 : decode cX4_colour 43 = .ok (.ireturn, 1) := by decide +kernel
set_option maxRecDepth 20000 in
theorem ggX4_where_X4_isSlice : GoodIn wsX4_where wsX4_isSlice := goodIn_r _ [7, 8, 9, 10, 6, 11, 16, 17, 18, 19, 20, 21, 22, 23, 24, 25, 26, 27, 28, 29, 30] (by decide +kernel) (by decide +kernel)
set_option maxRecDepth 20000 in
theorem gX4_where_X4_isSlice : GoodIn wsX4_where (wsV RX4 104 RX4 yX4_isSlice wsX4_isSlice) := goodIn_app (goodIn_of _ (by decide +kernel)) ggX4_where_X4_isSlice
set_option maxRecDepth 20000 in
theorem ggX4_where_X4_no : GoodIn wsX4_where wsX4_no := goodIn_r _ [15, 1, 16, 17, 18, 19, 20, 21, 22, 23, 24, 25, 26, 27, 28, 29, 30] (by decide +kernel) (by decide +kernel)
set_option maxRecDepth 20000 in
theorem gX4_where_X4_no : GoodIn wsX4_where (wsV RX4 67 RX4 yX4_no wsX4_no) := goodIn_app (goodIn_of _ (by decide +kernel)) ggX4_where_X4_no
theorem dX4_where_0 : decode cX4_where 0 = .ok (.aload_n 0, 1) := by decide +kernel
theorem dX4_where_1 : decode cX4_where 1 = .ok (.iconst 0, 1) := by decide +kernel
theorem dX4_where_2 : decode cX4_where 2 = .ok (.putfield 41, 3) := by decide +kernel
theorem dX4_where_5 : decode cX4_where 5 = .ok (.aload_n 0, 1) := by decide +kernel
theorem dX4_where_6 : decode cX4_where 6 = .ok (.iload_n 1, 1) := by decide +kernel
theorem dX4_where_7 : decode cX4_where 7 = .ok (.invokevirtual 104, 3) := by decide +kernel
theorem dX4_where_10 : decode cX4_where 10 = .ok (.ifCond .eq 12, 3) := by decide +kernel
theorem dX4_where_13 : decode cX4_where 13 = .ok (.aload_n 0, 1) := by decide +kernel
theorem dX4_where_14 : decode cX4_where 14 = .ok (.getfield 32, 3) := by decide +kernel
theorem dX4_where_17 : decode cX4_where 17 = .ok (.iload_n 1, 1) := by decide +kernel
theorem dX4_where_18 : decode cX4_where 18 = .ok (.iaload, 1) := by decide +kernel
theorem dX4_where_19 : decode cX4_where 19 = .ok (.goto 8, 3) := by decide +kernel
theorem dX4_where_22 : decode cX4_where 22 = .ok (.aload_n 0, 1) := by decide +kernel
theorem dX4_where_23 : decode cX4_where 23 = .ok (.iconst 1, 1) := by decide +kernel
theorem dX4_where_24 : decode cX4_where 24 = .ok (.invokevirtual 67, 3) := by decide +kernel
theorem dX4_where_27 : decode cX4_where 27 = .ok (.ireturn, 1) := by decide +kernel
set_option maxRecDepth 20000 in
theorem ggX4_bead_X4_no : GoodIn wsX4_bead wsX4_no := goodIn_r _ [8, 1, 9, 10, 11, 12, 13, 14, 15, 16, 17, 18, 19, 20, 21, 22, 23] (by decide +kernel) (by decide +kernel)
set_option maxRecDepth 20000 in
theorem gX4_bead_X4_no : GoodIn wsX4_bead (wsV RX4 67 RX4 yX4_no wsX4_no) := goodIn_app (goodIn_of _ (by decide +kernel)) ggX4_bead_X4_no
theorem dX4_bead_0 : decode cX4_bead 0 = .ok (.aload_n 0, 1) := by decide +kernel
theorem dX4_bead_1 : decode cX4_bead 1 = .ok (.iconst 0, 1) := by decide +kernel
theorem dX4_bead_2 : decode cX4_bead 2 = .ok (.putfield 41, 3) := by decide +kernel
theorem dX4_bead_5 : decode cX4_bead 5 = .ok (.aload_n 0, 1) := by decide +kernel
theorem dX4_bead_6 : decode cX4_bead 6 = .ok (.getfield 54, 3) := by decide +kernel
theorem dX4_bead_9 : decode cX4_bead 9 = .ok (.bipush 6, 2) := by decide +kernel
theorem dX4_bead_11 : decode cX4_bead 11 = .ok (.if_icmp .ne 9, 3) := by decide +kernel
theorem dX4_bead_14 : decode cX4_bead 14 = .ok (.aload_n 0, 1) := by decide +kernel
theorem dX4_bead_15 : decode cX4_bead 15 = .ok (.iconst 1, 1) := by decide +kernel
theorem dX4_bead_16 : decode cX4_bead 16 = .ok (.invokevirtual 67, 3) := by decide +kernel
theorem dX4_bead_19 : decode cX4_bead 19 = .ok (.ireturn, 1) := by decide +kernel
theorem dX4_bead_20 : decode cX4_bead 20 = .ok (.iconst 0, 1) := by decide +kernel
theorem dX4_bead_21 : decode cX4_bead 21 = .ok (.istore_n 1, 1) := by decide +kernel
theorem dX4_bead_22 : decode cX4_bead 22 = .ok (.iload_n 1, 1) := by decide +kernel
theorem dX4_bead_23 : decode cX4_bead 23 = .ok (.iconst 4, 1) := by decide +kernel
theorem dX4_bead_24 : decode cX4_bead 24 = .ok (.if_icmp .ge 23, 3) := by decide +kernel
theorem dX4_bead_27 : decode cX4_bead 27 = .ok (.aload_n 0, 1) := by decide +kernel
theorem dX4_bead_28 : decode cX4_bead 28 = .ok (.getfield 35, 3) := by decide +kernel
theorem dX4_bead_31 : decode cX4_bead 31 = .ok (.iconst 4, 1) := by decide +kernel
theorem dX4_bead_32 : decode cX4_bead 32 = .ok (.aload_n 0, 1) := by decide +kernel
theorem dX4_bead_33 : decode cX4_bead 33 = .ok (.getfield 54, 3) := by decide +kernel
theorem dX4_bead_36 : decode cX4_bead 36 = .ok (.imul, 1) := by decide +kernel
theorem dX4_bead_37 : decode cX4_bead 37 = .ok (.iload_n 1, 1) := by decide +kernel
theorem dX4_bead_38 : decode cX4_bead 38 = .ok (.iadd, 1) := by decide +kernel
theorem dX4_bead_39 : decode cX4_bead 39 = .ok (.iconst (-1), 1) := by decide +kernel
theorem dX4_bead_40 : decode cX4_bead 40 = .ok (.iastore, 1) := by decide +kernel
theorem dX4_bead_41 : decode cX4_bead 41 = .ok (.iinc 1 1, 3) := by decide +kernel
theorem dX4_bead_44 : decode cX4_bead 44 = .ok (.goto (-22), 3) := by decide +kernel
theorem dX4_bead_47 : decode cX4_bead 47 = .ok (.aload_n 0, 1) := by decide +kernel
theorem dX4_bead_48 : decode cX4_bead 48 = .ok (.dup, 1) := by decide +kernel
theorem dX4_bead_49 : decode cX4_bead 49 = .ok (.getfield 54, 3) := by decide +kernel
theorem dX4_bead_52 : decode cX4_bead 52 = .ok (.iconst 1, 1) := by decide +kernel
theorem dX4_bead_53 : decode cX4_bead 53 = .ok (.iadd, 1) := by decide +kernel
theorem dX4_bead_54 : decode cX4_bead 54 = .ok (.putfield 54, 3) := by decide +kernel
theorem dX4_bead_57 : decode cX4_bead 57 = .ok (.aload_n 0, 1) := by decide +kernel
theorem dX4_bead_58 : decode cX4_bead 58 = .ok (.getfield 54, 3) := by decide +kernel
theorem dX4_bead_61 : decode cX4_bead 61 = .ok (.iconst 1, 1) := by decide +kernel
theorem dX4_bead_62 : decode cX4_bead 62 = .ok (.isub, 1) := by decide +kernel
theorem dX4_bead_63 : decode cX4_bead 63 = .ok (.ireturn, 1) := by decide +kernel
theorem dX4_filled_0 : decode cX4_filled 0 = .ok (.iconst 0, 1) := by decide +kernel
theorem dX4_filled_1 : decode cX4_filled 1 = .ok (.istore_n 2, 1) := by decide +kernel
theorem dX4_filled_2 : decode cX4_filled 2 = .ok (.iconst 0, 1) := by decide +kernel
theorem dX4_filled_3 : decode cX4_filled 3 = .ok (.istore_n 3, 1) := by decide +kernel
theorem dX4_filled_4 : decode cX4_filled 4 = .ok (.iload_n 3, 1) := by decide +kernel
theorem dX4_filled_5 : decode cX4_filled 5 = .ok (.iconst 4, 1) := by decide +kernel
theorem dX4_filled_6 : decode cX4_filled 6 = .ok (.if_icmp .ge 31, 3) := by decide +kernel
theorem dX4_filled_9 : decode cX4_filled 9 = .ok (.iload_n 2, 1) := by decide +kernel
theorem dX4_filled_10 : decode cX4_filled 10 = .ok (.aload_n 0, 1) := by decide +kernel
theorem dX4_filled_11 : decode cX4_filled 11 = .ok (.getfield 35, 3) := by decide +kernel
theorem dX4_filled_14 : decode cX4_filled 14 = .ok (.iconst 4, 1) := by decide +kernel
theorem dX4_filled_15 : decode cX4_filled 15 = .ok (.iload_n 1, 1) := by decide +kernel
theorem dX4_filled_16 : decode cX4_filled 16 = .ok (.imul, 1) := by decide +kernel
theorem dX4_filled_17 : decode cX4_filled 17 = .ok (.iload_n 3, 1) := by decide +kernel
theorem dX4_filled_18 : decode cX4_filled 18 = .ok (.iadd, 1) := by decide +kernel
theorem dX4_filled_19 : decode cX4_filled 19 = .ok (.iaload, 1) := by decide +kernel
theorem dX4_filled_20 : decode cX4_filled 20 = .ok (.iconst (-1), 1) := by decide +kernel
theorem dX4_filled_21 : decode cX4_filled 21 = .ok (.if_icmp .ne 7, 3) := by decide +kernel
theorem dX4_filled_24 : decode cX4_filled 24 = .ok (.iconst 0, 1) := by decide +kernel
theorem dX4_filled_25 : decode cX4_filled 25 = .ok (.goto 4, 3) := by decide +kernel
theorem dX4_filled_28 : decode cX4_filled 28 = .ok (.iconst 1, 1) := by decide +kernel
theorem dX4_filled_29 : decode cX4_filled 29 = .ok (.iadd, 1) := by decide +kernel
theorem dX4_filled_30 : decode cX4_filled 30 = .ok (.istore_n 2, 1) := by decide +kernel
theorem dX4_filled_31 : decode cX4_filled 31 = .ok (.iinc 3 1, 3) := by decide +kernel
theorem dX4_filled_34 : decode cX4_filled 34 = .ok (.goto (-30), 3) := by decide +kernel
theorem dX4_filled_37 : decode cX4_filled 37 = .ok (.iload_n 2, 1) := by decide +kernel
theorem dX4_filled_38 : decode cX4_filled 38 = .ok (.ireturn, 1) := by decide +kernel
set_option maxRecDepth 20000 in
theorem ggX4_set_X4_isEye : GoodIn wsX4_set wsX4_isEye := goodIn_r _ [9, 10, 11, 12, 8, 13, 27, 28, 29, 30, 31, 32, 33, 34, 35, 36, 37, 38, 39, 40, 41] (by decide +kernel) (by decide +kernel)
set_option maxRecDepth 20000 in
theorem gX4_set_X4_isEye : GoodIn wsX4_set (wsV RX4 107 RX4 yX4_isEye wsX4_isEye) := goodIn_app (goodIn_of _ (by decide +kernel)) ggX4_set_X4_isEye
set_option maxRecDepth 20000 in
theorem ggX4_set_X4_isSlice : GoodIn wsX4_set wsX4_isSlice := goodIn_r _ [17, 18, 11, 12, 8, 13, 27, 28, 29, 30, 31, 32, 33, 34, 35, 36, 37, 38, 39, 40, 41] (by decide +kernel) (by decide +kernel)
set_option maxRecDepth 20000 in
theorem gX4_set_X4_isSlice : GoodIn wsX4_set (wsV RX4 104 RX4 yX4_isSlice wsX4_isSlice) := goodIn_app (goodIn_of _ (by decide +kernel)) ggX4_set_X4_isSlice
set_option maxRecDepth 20000 in
theorem ggX4_set_X4_no : GoodIn wsX4_set wsX4_no := goodIn_r _ [22, 1, 27, 28, 29, 30, 31, 32, 33, 34, 35, 36, 37, 38, 39, 40, 41] (by decide +kernel) (by decide +kernel)
set_option maxRecDepth 20000 in
theorem gX4_set_X4_no : GoodIn wsX4_set (wsV RX4 67 RX4 yX4_no wsX4_no) := goodIn_app (goodIn_of _ (by decide +kernel)) ggX4_set_X4_no
set_option maxRecDepth 20000 in
theorem ggX4_set_X4_isIn : GoodIn wsX4_set wsX4_isIn := goodIn_r _ [13] (by decide +kernel) (by decide +kernel)
set_option maxRecDepth 20000 in
theorem gX4_set_X4_isIn : GoodIn wsX4_set (va_wsS RX4 47 yX4_isIn wsX4_isIn) := goodIn_app (goodIn_of _ (by decide +kernel)) ggX4_set_X4_isIn
set_option maxRecDepth 20000 in
theorem ggX4_set_X4_filled : GoodIn wsX4_set wsX4_filled := goodIn_r _ [26, 2, 27, 28, 29, 30, 31, 32, 33, 34, 35, 36, 37, 38, 39, 40, 41] (by decide +kernel) (by decide +kernel)
set_option maxRecDepth 20000 in
theorem gX4_set_X4_filled : GoodIn wsX4_set (wsV RX4 110 RX4 yX4_filled wsX4_filled) := goodIn_app (goodIn_of _ (by decide +kernel)) ggX4_set_X4_filled
theorem dX4_set_0 : decode cX4_set 0 = .ok (.aload_n 0, 1) := by decide +kernel
theorem dX4_set_1 : decode cX4_set 1 = .ok (.iconst 0, 1) := by decide +kernel
theorem dX4_set_2 : decode cX4_set 2 = .ok (.putfield 41, 3) := by decide +kernel
theorem dX4_set_5 : decode cX4_set 5 = .ok (.aload_n 0, 1) := by decide +kernel
theorem dX4_set_6 : decode cX4_set 6 = .ok (.iload_n 1, 1) := by decide +kernel
theorem dX4_set_7 : decode cX4_set 7 = .ok (.iload_n 2, 1) := by decide +kernel
theorem dX4_set_8 : decode cX4_set 8 = .ok (.invokevirtual 107, 3) := by decide +kernel
theorem dX4_set_11 : decode cX4_set 11 = .ok (.ifCond .eq 11, 3) := by decide +kernel
theorem dX4_set_14 : decode cX4_set 14 = .ok (.aload_n 0, 1) := by decide +kernel
theorem dX4_set_15 : decode cX4_set 15 = .ok (.iload_n 3, 1) := by decide +kernel
theorem dX4_set_16 : decode cX4_set 16 = .ok (.invokevirtual 104, 3) := by decide +kernel
theorem dX4_set_19 : decode cX4_set 19 = .ok (.ifCond .ne 9, 3) := by decide +kernel
theorem dX4_set_22 : decode cX4_set 22 = .ok (.aload_n 0, 1) := by decide +kernel
theorem dX4_set_23 : decode cX4_set 23 = .ok (.iconst 1, 1) := by decide +kernel
theorem dX4_set_24 : decode cX4_set 24 = .ok (.invokevirtual 67, 3) := by decide +kernel
theorem dX4_set_27 : decode cX4_set 27 = .ok (.ireturn, 1) := by decide +kernel
theorem dX4_set_28 : decode cX4_set 28 = .ok (.iload 4, 2) := by decide +kernel
theorem dX4_set_30 : decode cX4_set 30 = .ok (.iconst 0, 1) := by decide +kernel
theorem dX4_set_31 : decode cX4_set 31 = .ok (.bipush 7, 2) := by decide +kernel
theorem dX4_set_33 : decode cX4_set 33 = .ok (.invokestatic 47, 3) := by decide +kernel
theorem dX4_set_36 : decode cX4_set 36 = .ok (.ifCond .ne 9, 3) := by decide +kernel
theorem dX4_set_39 : decode cX4_set 39 = .ok (.aload_n 0, 1) := by decide +kernel
theorem dX4_set_40 : decode cX4_set 40 = .ok (.iconst 2, 1) := by decide +kernel
theorem dX4_set_41 : decode cX4_set 41 = .ok (.invokevirtual 67, 3) := by decide +kernel
theorem dX4_set_44 : decode cX4_set 44 = .ok (.ireturn, 1) := by decide +kernel
theorem dX4_set_45 : decode cX4_set 45 = .ok (.iconst 4, 1) := by decide +kernel
theorem dX4_set_46 : decode cX4_set 46 = .ok (.iload_n 1, 1) := by decide +kernel
theorem dX4_set_47 : decode cX4_set 47 = .ok (.imul, 1) := by decide +kernel
theorem dX4_set_48 : decode cX4_set 48 = .ok (.iload_n 2, 1) := by decide +kernel
theorem dX4_set_49 : decode cX4_set 49 = .ok (.iadd, 1) := by decide +kernel
theorem dX4_set_50 : decode cX4_set 50 = .ok (.istore 5, 2) := by decide +kernel
theorem dX4_set_52 : decode cX4_set 52 = .ok (.aload_n 0, 1) := by decide +kernel
theorem dX4_set_53 : decode cX4_set 53 = .ok (.getfield 35, 3) := by decide +kernel
theorem dX4_set_56 : decode cX4_set 56 = .ok (.iload 5, 2) := by decide +kernel
theorem dX4_set_58 : decode cX4_set 58 = .ok (.iaload, 1) := by decide +kernel
theorem dX4_set_59 : decode cX4_set 59 = .ok (.iconst (-1), 1) := by decide +kernel
theorem dX4_set_60 : decode cX4_set 60 = .ok (.if_icmp .ne 13, 3) := by decide +kernel
theorem dX4_set_63 : decode cX4_set 63 = .ok (.aload_n 0, 1) := by decide +kernel
theorem dX4_set_64 : decode cX4_set 64 = .ok (.getfield 32, 3) := by decide +kernel
theorem dX4_set_67 : decode cX4_set 67 = .ok (.iload_n 3, 1) := by decide +kernel
theorem dX4_set_68 : decode cX4_set 68 = .ok (.iaload, 1) := by decide +kernel
theorem dX4_set_69 : decode cX4_set 69 = .ok (.iconst (-1), 1) := by decide +kernel
theorem dX4_set_70 : decode cX4_set 70 = .ok (.if_icmp .eq 9, 3) := by decide +kernel
theorem dX4_set_73 : decode cX4_set 73 = .ok (.aload_n 0, 1) := by decide +kernel
theorem dX4_set_74 : decode cX4_set 74 = .ok (.iconst 3, 1) := by decide +kernel
theorem dX4_set_75 : decode cX4_set 75 = .ok (.invokevirtual 67, 3) := by decide +kernel
theorem dX4_set_78 : decode cX4_set 78 = .ok (.ireturn, 1) := by decide +kernel
theorem dX4_set_79 : decode cX4_set 79 = .ok (.aload_n 0, 1) := by decide +kernel
theorem dX4_set_80 : decode cX4_set 80 = .ok (.getfield 35, 3) := by decide +kernel
theorem dX4_set_83 : decode cX4_set 83 = .ok (.iload 5, 2) := by decide +kernel
theorem dX4_set_85 : decode cX4_set 85 = .ok (.iload_n 3, 1) := by decide +kernel
theorem dX4_set_86 : decode cX4_set 86 = .ok (.iastore, 1) := by decide +kernel
theorem dX4_set_87 : decode cX4_set 87 = .ok (.aload_n 0, 1) := by decide +kernel
theorem dX4_set_88 : decode cX4_set 88 = .ok (.getfield 38, 3) := by decide +kernel
theorem dX4_set_91 : decode cX4_set 91 = .ok (.iload 5, 2) := by decide +kernel
theorem dX4_set_93 : decode cX4_set 93 = .ok (.iload 4, 2) := by decide +kernel
theorem dX4_set_95 : decode cX4_set 95 = .ok (.iastore, 1) := by decide +kernel
theorem dX4_set_96 : decode cX4_set 96 = .ok (.aload_n 0, 1) := by decide +kernel
theorem dX4_set_97 : decode cX4_set 97 = .ok (.getfield 32, 3) := by decide +kernel
theorem dX4_set_100 : decode cX4_set 100 = .ok (.iload_n 3, 1) := by decide +kernel
theorem dX4_set_101 : decode cX4_set 101 = .ok (.iload 5, 2) := by decide +kernel
theorem dX4_set_103 : decode cX4_set 103 = .ok (.iastore, 1) := by decide +kernel
theorem dX4_set_104 : decode cX4_set 104 = .ok (.aload_n 0, 1) := by decide +kernel
theorem dX4_set_105 : decode cX4_set 105 = .ok (.iload_n 1, 1) := by decide +kernel
theorem dX4_set_106 : decode cX4_set 106 = .ok (.invokevirtual 110, 3) := by decide +kernel
theorem dX4_set_109 : decode cX4_set 109 = .ok (.ireturn, 1) := by decide +kernel
set_option maxRecDepth 20000 in
theorem ggX4_drop_X4_isEye : GoodIn wsX4_drop wsX4_isEye := goodIn_r _ [9, 10, 11, 12, 8, 13, 18, 19, 20, 21, 22, 23, 24, 25, 26, 27, 28, 29, 30, 31, 32] (by decide +kernel) (by decide +kernel)
set_option maxRecDepth 20000 in
theorem gX4_drop_X4_isEye : GoodIn wsX4_drop (wsV RX4 107 RX4 yX4_isEye wsX4_isEye) := goodIn_app (goodIn_of _ (by decide +kernel)) ggX4_drop_X4_isEye
set_option maxRecDepth 20000 in
theorem ggX4_drop_X4_no : GoodIn wsX4_drop wsX4_no := goodIn_r _ [17, 1, 18, 19, 20, 21, 22, 23, 24, 25, 26, 27, 28, 29, 30, 31, 32] (by decide +kernel) (by decide +kernel)
set_option maxRecDepth 20000 in
theorem gX4_drop_X4_no : GoodIn wsX4_drop (wsV RX4 67 RX4 yX4_no wsX4_no) := goodIn_app (goodIn_of _ (by decide +kernel)) ggX4_drop_X4_no
theorem dX4_drop_0 : decode cX4_drop 0 = .ok (.aload_n 0, 1) := by decide +kernel
theorem dX4_drop_1 : decode cX4_drop 1 = .ok (.iconst 0, 1) := by decide +kernel
theorem dX4_drop_2 : decode cX4_drop 2 = .ok (.putfield 41, 3) := by decide +kernel
theorem dX4_drop_5 : decode cX4_drop 5 = .ok (.aload_n 0, 1) := by decide +kernel
theorem dX4_drop_6 : decode cX4_drop 6 = .ok (.iload_n 1, 1) := by decide +kernel
theorem dX4_drop_7 : decode cX4_drop 7 = .ok (.iload_n 2, 1) := by decide +kernel
theorem dX4_drop_8 : decode cX4_drop 8 = .ok (.invokevirtual 107, 3) := by decide +kernel
theorem dX4_drop_11 : decode cX4_drop 11 = .ok (.ifCond .ne 9, 3) := by decide +kernel
theorem dX4_drop_14 : decode cX4_drop 14 = .ok (.aload_n 0, 1) := by decide +kernel
theorem dX4_drop_15 : decode cX4_drop 15 = .ok (.iconst 1, 1) := by decide +kernel
theorem dX4_drop_16 : decode cX4_drop 16 = .ok (.invokevirtual 67, 3) := by decide +kernel
theorem dX4_drop_19 : decode cX4_drop 19 = .ok (.ireturn, 1) := by decide +kernel
theorem dX4_drop_20 : decode cX4_drop 20 = .ok (.iconst 4, 1) := by decide +kernel
theorem dX4_drop_21 : decode cX4_drop 21 = .ok (.iload_n 1, 1) := by decide +kernel
theorem dX4_drop_22 : decode cX4_drop 22 = .ok (.imul, 1) := by decide +kernel
theorem dX4_drop_23 : decode cX4_drop 23 = .ok (.iload_n 2, 1) := by decide +kernel
theorem dX4_drop_24 : decode cX4_drop 24 = .ok (.iadd, 1) := by decide +kernel
theorem dX4_drop_25 : decode cX4_drop 25 = .ok (.istore_n 3, 1) := by decide +kernel
theorem dX4_drop_26 : decode cX4_drop 26 = .ok (.aload_n 0, 1) := by decide +kernel
theorem dX4_drop_27 : decode cX4_drop 27 = .ok (.getfield 35, 3) := by decide +kernel
theorem dX4_drop_30 : decode cX4_drop 30 = .ok (.iload_n 3, 1) := by decide +kernel
theorem dX4_drop_31 : decode cX4_drop 31 = .ok (.iaload, 1) := by decide +kernel
theorem dX4_drop_32 : decode cX4_drop 32 = .ok (.istore 4, 2) := by decide +kernel
theorem dX4_drop_34 : decode cX4_drop 34 = .ok (.iload 4, 2) := by decide +kernel
theorem dX4_drop_36 : decode cX4_drop 36 = .ok (.iconst (-1), 1) := by decide +kernel
theorem dX4_drop_37 : decode cX4_drop 37 = .ok (.if_icmp .ne 9, 3) := by decide +kernel
theorem dX4_drop_40 : decode cX4_drop 40 = .ok (.aload_n 0, 1) := by decide +kernel
theorem dX4_drop_41 : decode cX4_drop 41 = .ok (.iconst 2, 1) := by decide +kernel
theorem dX4_drop_42 : decode cX4_drop 42 = .ok (.invokevirtual 67, 3) := by decide +kernel
theorem dX4_drop_45 : decode cX4_drop 45 = .ok (.ireturn, 1) := by decide +kernel
theorem dX4_drop_46 : decode cX4_drop 46 = .ok (.aload_n 0, 1) := by decide +kernel
theorem dX4_drop_47 : decode cX4_drop 47 = .ok (.getfield 35, 3) := by decide +kernel
theorem dX4_drop_50 : decode cX4_drop 50 = .ok (.iload_n 3, 1) := by decide +kernel
theorem dX4_drop_51 : decode cX4_drop 51 = .ok (.iconst (-1), 1) := by decide +kernel
theorem dX4_drop_52 : decode cX4_drop 52 = .ok (.iastore, 1) := by decide +kernel
theorem dX4_drop_53 : decode cX4_drop 53 = .ok (.aload_n 0, 1) := by decide +kernel
theorem dX4_drop_54 : decode cX4_drop 54 = .ok (.getfield 38, 3) := by decide +kernel
theorem dX4_drop_57 : decode cX4_drop 57 = .ok (.iload_n 3, 1) := by decide +kernel
theorem dX4_drop_58 : decode cX4_drop 58 = .ok (.iconst 0, 1) := by decide +kernel
theorem dX4_drop_59 : decode cX4_drop 59 = .ok (.iastore, 1) := by decide +kernel
theorem dX4_drop_60 : decode cX4_drop 60 = .ok (.aload_n 0, 1) := by decide +kernel
theorem dX4_drop_61 : decode cX4_drop 61 = .ok (.getfield 32, 3) := by decide +kernel
theorem dX4_drop_64 : decode cX4_drop 64 = .ok (.iload 4, 2) := by decide +kernel
theorem dX4_drop_66 : decode cX4_drop 66 = .ok (.iconst (-1), 1) := by decide +kernel
theorem dX4_drop_67 : decode cX4_drop 67 = .ok (.iastore, 1) := by decide +kernel
theorem dX4_drop_68 : decode cX4_drop 68 = .ok (.iload 4, 2) := by decide +kernel
theorem dX4_drop_70 : decode cX4_drop 70 = .ok (.ireturn, 1) := by decide +kernel
set_option maxRecDepth 20000 in
theorem ggX4_seen_X4_isEye : GoodIn wsX4_seen wsX4_isEye := goodIn_r _ [9, 10, 11, 12, 8, 13, 32, 33, 34, 35, 36, 37, 38, 39, 40, 41, 42, 43, 44, 45, 46] (by decide +kernel) (by decide +kernel)
set_option maxRecDepth 20000 in
theorem gX4_seen_X4_isEye : GoodIn wsX4_seen (wsV RX4 107 RX4 yX4_isEye wsX4_isEye) := goodIn_app (goodIn_of _ (by decide +kernel)) ggX4_seen_X4_isEye
set_option maxRecDepth 20000 in
theorem ggX4_seen_X4_isSpot : GoodIn wsX4_seen wsX4_isSpot := goodIn_r _ [16, 11, 12, 8, 13] (by decide +kernel) (by decide +kernel)
set_option maxRecDepth 20000 in
theorem gX4_seen_X4_isSpot : GoodIn wsX4_seen (va_wsS RX4 87 yX4_isSpot wsX4_isSpot) := goodIn_app (goodIn_of _ (by decide +kernel)) ggX4_seen_X4_isSpot
set_option maxRecDepth 20000 in
theorem ggX4_seen_X4_no : GoodIn wsX4_seen wsX4_no := goodIn_r _ [20, 1, 32, 33, 34, 35, 36, 37, 38, 39, 40, 41, 42, 43, 44, 45, 46] (by decide +kernel) (by decide +kernel)
set_option maxRecDepth 20000 in
theorem gX4_seen_X4_no : GoodIn wsX4_seen (wsV RX4 67 RX4 yX4_no wsX4_no) := goodIn_app (goodIn_of _ (by decide +kernel)) ggX4_seen_X4_no
set_option maxRecDepth 20000 in
theorem ggX4_seen_X4_rotated : GoodIn wsX4_seen wsX4_rotated := goodIn_r _ [23, 24, 25, 26, 27, 28] (by decide +kernel) (by decide +kernel)
set_option maxRecDepth 20000 in
theorem gX4_seen_X4_rotated : GoodIn wsX4_seen (va_wsS RX4 64 yX4_rotated wsX4_rotated) := goodIn_app (goodIn_of _ (by decide +kernel)) ggX4_seen_X4_rotated
set_option maxRecDepth 20000 in
theorem ggX4_seen_X4_colourOf : GoodIn wsX4_seen wsX4_colourOf := goodIn_r _ [31] (by decide +kernel) (by decide +kernel)
set_option maxRecDepth 20000 in
theorem gX4_seen_X4_colourOf : GoodIn wsX4_seen (va_wsS RX4 101 yX4_colourOf wsX4_colourOf) := goodIn_app (goodIn_of _ (by decide +kernel)) ggX4_seen_X4_colourOf
theorem dX4_seen_0 : decode cX4_seen 0 = .ok (.aload_n 0, 1) := by decide +kernel
theorem dX4_seen_1 : decode cX4_seen 1 = .ok (.iconst 0, 1) := by decide +kernel
theorem dX4_seen_2 : decode cX4_seen 2 = .ok (.putfield 41, 3) := by decide +kernel
theorem dX4_seen_5 : decode cX4_seen 5 = .ok (.aload_n 0, 1) := by decide +kernel
theorem dX4_seen_6 : decode cX4_seen 6 = .ok (.iload_n 1, 1) := by decide +kernel
theorem dX4_seen_7 : decode cX4_seen 7 = .ok (.iload_n 2, 1) := by decide +kernel
theorem dX4_seen_8 : decode cX4_seen 8 = .ok (.invokevirtual 107, 3) := by decide +kernel
theorem dX4_seen_11 : decode cX4_seen 11 = .ok (.ifCond .eq 12, 3) := by decide +kernel
theorem dX4_seen_14 : decode cX4_seen 14 = .ok (.iload_n 3, 1) := by decide +kernel
theorem dX4_seen_15 : decode cX4_seen 15 = .ok (.iload 4, 2) := by decide +kernel
theorem dX4_seen_17 : decode cX4_seen 17 = .ok (.invokestatic 87, 3) := by decide +kernel
theorem dX4_seen_20 : decode cX4_seen 20 = .ok (.ifCond .ne 9, 3) := by decide +kernel
theorem dX4_seen_23 : decode cX4_seen 23 = .ok (.aload_n 0, 1) := by decide +kernel
theorem dX4_seen_24 : decode cX4_seen 24 = .ok (.iconst 1, 1) := by decide +kernel
theorem dX4_seen_25 : decode cX4_seen 25 = .ok (.invokevirtual 67, 3) := by decide +kernel
theorem dX4_seen_28 : decode cX4_seen 28 = .ok (.ireturn, 1) := by decide +kernel
theorem dX4_seen_29 : decode cX4_seen 29 = .ok (.iconst 4, 1) := by decide +kernel
theorem dX4_seen_30 : decode cX4_seen 30 = .ok (.iload_n 1, 1) := by decide +kernel
theorem dX4_seen_31 : decode cX4_seen 31 = .ok (.imul, 1) := by decide +kernel
theorem dX4_seen_32 : decode cX4_seen 32 = .ok (.iload_n 2, 1) := by decide +kernel
theorem dX4_seen_33 : decode cX4_seen 33 = .ok (.iadd, 1) := by decide +kernel
theorem dX4_seen_34 : decode cX4_seen 34 = .ok (.istore 5, 2) := by decide +kernel
theorem dX4_seen_36 : decode cX4_seen 36 = .ok (.aload_n 0, 1) := by decide +kernel
theorem dX4_seen_37 : decode cX4_seen 37 = .ok (.getfield 35, 3) := by decide +kernel
theorem dX4_seen_40 : decode cX4_seen 40 = .ok (.iload 5, 2) := by decide +kernel
theorem dX4_seen_42 : decode cX4_seen 42 = .ok (.iaload, 1) := by decide +kernel
theorem dX4_seen_43 : decode cX4_seen 43 = .ok (.iconst (-1), 1) := by decide +kernel
theorem dX4_seen_44 : decode cX4_seen 44 = .ok (.if_icmp .ne 7, 3) := by decide +kernel
theorem dX4_seen_47 : decode cX4_seen 47 = .ok (.iconst (-1), 1) := by decide +kernel
theorem dX4_seen_48 : decode cX4_seen 48 = .ok (.goto 34, 3) := by decide +kernel
theorem dX4_seen_51 : decode cX4_seen 51 = .ok (.aload_n 0, 1) := by decide +kernel
theorem dX4_seen_52 : decode cX4_seen 52 = .ok (.getfield 29, 3) := by decide +kernel
theorem dX4_seen_55 : decode cX4_seen 55 = .ok (.iconst 3, 1) := by decide +kernel
theorem dX4_seen_56 : decode cX4_seen 56 = .ok (.aload_n 0, 1) := by decide +kernel
theorem dX4_seen_57 : decode cX4_seen 57 = .ok (.getfield 35, 3) := by decide +kernel
theorem dX4_seen_60 : decode cX4_seen 60 = .ok (.iload 5, 2) := by decide +kernel
theorem dX4_seen_62 : decode cX4_seen 62 = .ok (.iaload, 1) := by decide +kernel
theorem dX4_seen_63 : decode cX4_seen 63 = .ok (.imul, 1) := by decide +kernel
theorem dX4_seen_64 : decode cX4_seen 64 = .ok (.iload_n 3, 1) := by decide +kernel
theorem dX4_seen_65 : decode cX4_seen 65 = .ok (.iadd, 1) := by decide +kernel
theorem dX4_seen_66 : decode cX4_seen 66 = .ok (.iaload, 1) := by decide +kernel
theorem dX4_seen_67 : decode cX4_seen 67 = .ok (.aload_n 0, 1) := by decide +kernel
theorem dX4_seen_68 : decode cX4_seen 68 = .ok (.getfield 38, 3) := by decide +kernel
theorem dX4_seen_71 : decode cX4_seen 71 = .ok (.iload 5, 2) := by decide +kernel
theorem dX4_seen_73 : decode cX4_seen 73 = .ok (.iaload, 1) := by decide +kernel
theorem dX4_seen_74 : decode cX4_seen 74 = .ok (.invokestatic 64, 3) := by decide +kernel
theorem dX4_seen_77 : decode cX4_seen 77 = .ok (.iload 4, 2) := by decide +kernel
theorem dX4_seen_79 : decode cX4_seen 79 = .ok (.invokestatic 101, 3) := by decide +kernel
theorem dX4_seen_82 : decode cX4_seen 82 = .ok (.ireturn, 1) := by decide +kernel
set_option maxRecDepth 20000 in
theorem ggX4_areTwins_X4_areAlike : GoodIn wsX4_areTwins wsX4_areAlike := goodIn_r _ [7, 8, 9, 6, 10, 11, 12, 13, 14, 15] (by decide +kernel) (by decide +kernel)
set_option maxRecDepth 20000 in
theorem gX4_areTwins_X4_areAlike : GoodIn wsX4_areTwins (va_wsS RX4 113 yX4_areAlike wsX4_areAlike) := goodIn_app (goodIn_of _ (by decide +kernel)) ggX4_areTwins_X4_areAlike
theorem dX4_areTwins_0 : decode cX4_areTwins 0 = .ok (.aload_n 0, 1) := by decide +kernel
theorem dX4_areTwins_1 : decode cX4_areTwins 1 = .ok (.getfield 35, 3) := by decide +kernel
theorem dX4_areTwins_4 : decode cX4_areTwins 4 = .ok (.iload_n 1, 1) := by decide +kernel
theorem dX4_areTwins_5 : decode cX4_areTwins 5 = .ok (.iaload, 1) := by decide +kernel
theorem dX4_areTwins_6 : decode cX4_areTwins 6 = .ok (.iconst (-1), 1) := by decide +kernel
theorem dX4_areTwins_7 : decode cX4_areTwins 7 = .ok (.if_icmp .eq 56, 3) := by decide +kernel
theorem dX4_areTwins_10 : decode cX4_areTwins 10 = .ok (.aload_n 0, 1) := by decide +kernel
theorem dX4_areTwins_11 : decode cX4_areTwins 11 = .ok (.getfield 35, 3) := by decide +kernel
theorem dX4_areTwins_14 : decode cX4_areTwins 14 = .ok (.iload_n 2, 1) := by decide +kernel
theorem dX4_areTwins_15 : decode cX4_areTwins 15 = .ok (.iaload, 1) := by decide +kernel
theorem dX4_areTwins_16 : decode cX4_areTwins 16 = .ok (.iconst (-1), 1) := by decide +kernel
theorem dX4_areTwins_17 : decode cX4_areTwins 17 = .ok (.if_icmp .eq 46, 3) := by decide +kernel
theorem dX4_areTwins_20 : decode cX4_areTwins 20 = .ok (.aload_n 0, 1) := by decide +kernel
theorem dX4_areTwins_21 : decode cX4_areTwins 21 = .ok (.getfield 29, 3) := by decide +kernel
theorem dX4_areTwins_24 : decode cX4_areTwins 24 = .ok (.aload_n 0, 1) := by decide +kernel
theorem dX4_areTwins_25 : decode cX4_areTwins 25 = .ok (.getfield 35, 3) := by decide +kernel
theorem dX4_areTwins_28 : decode cX4_areTwins 28 = .ok (.iload_n 1, 1) := by decide +kernel
theorem dX4_areTwins_29 : decode cX4_areTwins 29 = .ok (.iaload, 1) := by decide +kernel
theorem dX4_areTwins_30 : decode cX4_areTwins 30 = .ok (.aload_n 0, 1) := by decide +kernel
theorem dX4_areTwins_31 : decode cX4_areTwins 31 = .ok (.getfield 38, 3) := by decide +kernel
theorem dX4_areTwins_34 : decode cX4_areTwins 34 = .ok (.iload_n 1, 1) := by decide +kernel
theorem dX4_areTwins_35 : decode cX4_areTwins 35 = .ok (.iaload, 1) := by decide +kernel
theorem dX4_areTwins_36 : decode cX4_areTwins 36 = .ok (.aload_n 0, 1) := by decide +kernel
theorem dX4_areTwins_37 : decode cX4_areTwins 37 = .ok (.getfield 38, 3) := by decide +kernel
theorem dX4_areTwins_40 : decode cX4_areTwins 40 = .ok (.iload_n 2, 1) := by decide +kernel
theorem dX4_areTwins_41 : decode cX4_areTwins 41 = .ok (.iaload, 1) := by decide +kernel
theorem dX4_areTwins_42 : decode cX4_areTwins 42 = .ok (.isub, 1) := by decide +kernel
theorem dX4_areTwins_43 : decode cX4_areTwins 43 = .ok (.aload_n 0, 1) := by decide +kernel
theorem dX4_areTwins_44 : decode cX4_areTwins 44 = .ok (.getfield 29, 3) := by decide +kernel
theorem dX4_areTwins_47 : decode cX4_areTwins 47 = .ok (.aload_n 0, 1) := by decide +kernel
theorem dX4_areTwins_48 : decode cX4_areTwins 48 = .ok (.getfield 35, 3) := by decide +kernel
theorem dX4_areTwins_51 : decode cX4_areTwins 51 = .ok (.iload_n 2, 1) := by decide +kernel
theorem dX4_areTwins_52 : decode cX4_areTwins 52 = .ok (.iaload, 1) := by decide +kernel
theorem dX4_areTwins_53 : decode cX4_areTwins 53 = .ok (.invokestatic 113, 3) := by decide +kernel
theorem dX4_areTwins_56 : decode cX4_areTwins 56 = .ok (.ifCond .eq 7, 3) := by decide +kernel
theorem dX4_areTwins_59 : decode cX4_areTwins 59 = .ok (.iconst 1, 1) := by decide +kernel
theorem dX4_areTwins_60 : decode cX4_areTwins 60 = .ok (.goto 4, 3) := by decide +kernel
theorem dX4_areTwins_63 : decode cX4_areTwins 63 = .ok (.iconst 0, 1) := by decide +kernel
theorem dX4_areTwins_64 : decode cX4_areTwins 64 = .ok (.ireturn, 1) := by decide +kernel
set_option maxRecDepth 20000 in
theorem ggX4_twins_X4_areTwins : GoodIn wsX4_twins wsX4_areTwins := goodIn_r _ [5, 6, 7, 8, 9, 10, 4, 11, 12, 13, 14, 15, 16, 17, 18, 19, 20, 21, 22, 23, 24, 25, 26, 27, 28, 29, 30, 31, 32, 33, 34] (by decide +kernel) (by decide +kernel)
set_option maxRecDepth 20000 in
theorem gX4_twins_X4_areTwins : GoodIn wsX4_twins (wsV RX4 117 RX4 yX4_areTwins wsX4_areTwins) := goodIn_app (goodIn_of _ (by decide +kernel)) ggX4_twins_X4_areTwins
theorem dX4_twins_0 : decode cX4_twins 0 = .ok (.iconst 0, 1) := by decide +kernel
theorem dX4_twins_1 : decode cX4_twins 1 = .ok (.istore_n 3, 1) := by decide +kernel
theorem dX4_twins_2 : decode cX4_twins 2 = .ok (.iconst 0, 1) := by decide +kernel
theorem dX4_twins_3 : decode cX4_twins 3 = .ok (.istore 4, 2) := by decide +kernel
theorem dX4_twins_5 : decode cX4_twins 5 = .ok (.iload 4, 2) := by decide +kernel
theorem dX4_twins_7 : decode cX4_twins 7 = .ok (.iconst 4, 1) := by decide +kernel
theorem dX4_twins_8 : decode cX4_twins 8 = .ok (.if_icmp .ge 35, 3) := by decide +kernel
theorem dX4_twins_11 : decode cX4_twins 11 = .ok (.iload_n 3, 1) := by decide +kernel
theorem dX4_twins_12 : decode cX4_twins 12 = .ok (.aload_n 0, 1) := by decide +kernel
theorem dX4_twins_13 : decode cX4_twins 13 = .ok (.iconst 4, 1) := by decide +kernel
theorem dX4_twins_14 : decode cX4_twins 14 = .ok (.iload_n 1, 1) := by decide +kernel
theorem dX4_twins_15 : decode cX4_twins 15 = .ok (.imul, 1) := by decide +kernel
theorem dX4_twins_16 : decode cX4_twins 16 = .ok (.iload_n 2, 1) := by decide +kernel
theorem dX4_twins_17 : decode cX4_twins 17 = .ok (.iadd, 1) := by decide +kernel
theorem dX4_twins_18 : decode cX4_twins 18 = .ok (.iconst 4, 1) := by decide +kernel
theorem dX4_twins_19 : decode cX4_twins 19 = .ok (.iload_n 1, 1) := by decide +kernel
theorem dX4_twins_20 : decode cX4_twins 20 = .ok (.imul, 1) := by decide +kernel
theorem dX4_twins_21 : decode cX4_twins 21 = .ok (.iload 4, 2) := by decide +kernel
theorem dX4_twins_23 : decode cX4_twins 23 = .ok (.iadd, 1) := by decide +kernel
theorem dX4_twins_24 : decode cX4_twins 24 = .ok (.invokevirtual 117, 3) := by decide +kernel
theorem dX4_twins_27 : decode cX4_twins 27 = .ok (.ifCond .eq 7, 3) := by decide +kernel
theorem dX4_twins_30 : decode cX4_twins 30 = .ok (.iconst 1, 1) := by decide +kernel
theorem dX4_twins_31 : decode cX4_twins 31 = .ok (.goto 4, 3) := by decide +kernel
theorem dX4_twins_34 : decode cX4_twins 34 = .ok (.iconst 0, 1) := by decide +kernel
theorem dX4_twins_35 : decode cX4_twins 35 = .ok (.iadd, 1) := by decide +kernel
theorem dX4_twins_36 : decode cX4_twins 36 = .ok (.istore_n 3, 1) := by decide +kernel
theorem dX4_twins_37 : decode cX4_twins 37 = .ok (.iinc 4 1, 3) := by decide +kernel
theorem dX4_twins_40 : decode cX4_twins 40 = .ok (.goto (-35), 3) := by decide +kernel
theorem dX4_twins_43 : decode cX4_twins 43 = .ok (.iload_n 3, 1) := by decide +kernel
theorem dX4_twins_44 : decode cX4_twins 44 = .ok (.ireturn, 1) := by decide +kernel
set_option maxRecDepth 20000 in
theorem ggX4_counted_X4_twins : GoodIn wsX4_counted wsX4_twins := goodIn_r _ [13, 14, 15, 16, 12, 17, 18, 19, 20, 21, 22, 23, 24, 25, 26, 27, 28, 29, 30, 31, 32, 33, 34, 35, 36, 37, 38, 39, 40, 41, 42, 43, 44, 45, 46] (by decide +kernel) (by decide +kernel)
set_option maxRecDepth 20000 in
theorem gX4_counted_X4_twins : GoodIn wsX4_counted (wsV RX4 120 RX4 yX4_twins wsX4_twins) := goodIn_app (goodIn_of _ (by decide +kernel)) ggX4_counted_X4_twins
theorem dX4_counted_0 : decode cX4_counted 0 = .ok (.iconst 0, 1) := by decide +kernel
theorem dX4_counted_1 : decode cX4_counted 1 = .ok (.istore_n 2, 1) := by decide +kernel
theorem dX4_counted_2 : decode cX4_counted 2 = .ok (.iconst 0, 1) := by decide +kernel
theorem dX4_counted_3 : decode cX4_counted 3 = .ok (.istore_n 3, 1) := by decide +kernel
theorem dX4_counted_4 : decode cX4_counted 4 = .ok (.iconst 0, 1) := by decide +kernel
theorem dX4_counted_5 : decode cX4_counted 5 = .ok (.istore 4, 2) := by decide +kernel
theorem dX4_counted_7 : decode cX4_counted 7 = .ok (.iconst 0, 1) := by decide +kernel
theorem dX4_counted_8 : decode cX4_counted 8 = .ok (.istore 5, 2) := by decide +kernel
theorem dX4_counted_10 : decode cX4_counted 10 = .ok (.iconst 0, 1) := by decide +kernel
theorem dX4_counted_11 : decode cX4_counted 11 = .ok (.istore 6, 2) := by decide +kernel
theorem dX4_counted_13 : decode cX4_counted 13 = .ok (.iload 6, 2) := by decide +kernel
theorem dX4_counted_15 : decode cX4_counted 15 = .ok (.aload_n 0, 1) := by decide +kernel
theorem dX4_counted_16 : decode cX4_counted 16 = .ok (.getfield 44, 3) := by decide +kernel
theorem dX4_counted_19 : decode cX4_counted 19 = .ok (.if_icmp .ge 29, 3) := by decide +kernel
theorem dX4_counted_22 : decode cX4_counted 22 = .ok (.iload_n 2, 1) := by decide +kernel
theorem dX4_counted_23 : decode cX4_counted 23 = .ok (.aload_n 0, 1) := by decide +kernel
theorem dX4_counted_24 : decode cX4_counted 24 = .ok (.getfield 23, 3) := by decide +kernel
theorem dX4_counted_27 : decode cX4_counted 27 = .ok (.iload 6, 2) := by decide +kernel
theorem dX4_counted_29 : decode cX4_counted 29 = .ok (.iaload, 1) := by decide +kernel
theorem dX4_counted_30 : decode cX4_counted 30 = .ok (.iadd, 1) := by decide +kernel
theorem dX4_counted_31 : decode cX4_counted 31 = .ok (.istore_n 2, 1) := by decide +kernel
theorem dX4_counted_32 : decode cX4_counted 32 = .ok (.iload_n 3, 1) := by decide +kernel
theorem dX4_counted_33 : decode cX4_counted 33 = .ok (.aload_n 0, 1) := by decide +kernel
theorem dX4_counted_34 : decode cX4_counted 34 = .ok (.getfield 13, 3) := by decide +kernel
theorem dX4_counted_37 : decode cX4_counted 37 = .ok (.iload 6, 2) := by decide +kernel
theorem dX4_counted_39 : decode cX4_counted 39 = .ok (.iaload, 1) := by decide +kernel
theorem dX4_counted_40 : decode cX4_counted 40 = .ok (.iadd, 1) := by decide +kernel
theorem dX4_counted_41 : decode cX4_counted 41 = .ok (.istore_n 3, 1) := by decide +kernel
theorem dX4_counted_42 : decode cX4_counted 42 = .ok (.iinc 6 1, 3) := by decide +kernel
theorem dX4_counted_45 : decode cX4_counted 45 = .ok (.goto (-32), 3) := by decide +kernel
theorem dX4_counted_48 : decode cX4_counted 48 = .ok (.iconst 0, 1) := by decide +kernel
theorem dX4_counted_49 : decode cX4_counted 49 = .ok (.istore 6, 2) := by decide +kernel
theorem dX4_counted_51 : decode cX4_counted 51 = .ok (.iload 6, 2) := by decide +kernel
theorem dX4_counted_53 : decode cX4_counted 53 = .ok (.aload_n 0, 1) := by decide +kernel
theorem dX4_counted_54 : decode cX4_counted 54 = .ok (.getfield 51, 3) := by decide +kernel
theorem dX4_counted_57 : decode cX4_counted 57 = .ok (.if_icmp .ge 30, 3) := by decide +kernel
theorem dX4_counted_60 : decode cX4_counted 60 = .ok (.iload 4, 2) := by decide +kernel
theorem dX4_counted_62 : decode cX4_counted 62 = .ok (.aload_n 0, 1) := by decide +kernel
theorem dX4_counted_63 : decode cX4_counted 63 = .ok (.getfield 32, 3) := by decide +kernel
theorem dX4_counted_66 : decode cX4_counted 66 = .ok (.iload 6, 2) := by decide +kernel
theorem dX4_counted_68 : decode cX4_counted 68 = .ok (.iaload, 1) := by decide +kernel
theorem dX4_counted_69 : decode cX4_counted 69 = .ok (.iconst (-1), 1) := by decide +kernel
theorem dX4_counted_70 : decode cX4_counted 70 = .ok (.if_icmp .ne 7, 3) := by decide +kernel
theorem dX4_counted_73 : decode cX4_counted 73 = .ok (.iconst 0, 1) := by decide +kernel
theorem dX4_counted_74 : decode cX4_counted 74 = .ok (.goto 4, 3) := by decide +kernel
theorem dX4_counted_77 : decode cX4_counted 77 = .ok (.iconst 1, 1) := by decide +kernel
theorem dX4_counted_78 : decode cX4_counted 78 = .ok (.iadd, 1) := by decide +kernel
theorem dX4_counted_79 : decode cX4_counted 79 = .ok (.istore 4, 2) := by decide +kernel
theorem dX4_counted_81 : decode cX4_counted 81 = .ok (.iinc 6 1, 3) := by decide +kernel
theorem dX4_counted_84 : decode cX4_counted 84 = .ok (.goto (-33), 3) := by decide +kernel
theorem dX4_counted_87 : decode cX4_counted 87 = .ok (.iconst 0, 1) := by decide +kernel
theorem dX4_counted_88 : decode cX4_counted 88 = .ok (.istore 6, 2) := by decide +kernel
theorem dX4_counted_90 : decode cX4_counted 90 = .ok (.iload 6, 2) := by decide +kernel
theorem dX4_counted_92 : decode cX4_counted 92 = .ok (.aload_n 0, 1) := by decide +kernel
theorem dX4_counted_93 : decode cX4_counted 93 = .ok (.getfield 54, 3) := by decide +kernel
theorem dX4_counted_96 : decode cX4_counted 96 = .ok (.if_icmp .ge 30, 3) := by decide +kernel
theorem dX4_counted_99 : decode cX4_counted 99 = .ok (.iload 5, 2) := by decide +kernel
theorem dX4_counted_101 : decode cX4_counted 101 = .ok (.aload_n 0, 1) := by decide +kernel
theorem dX4_counted_102 : decode cX4_counted 102 = .ok (.iload 6, 2) := by decide +kernel
theorem dX4_counted_104 : decode cX4_counted 104 = .ok (.iconst 0, 1) := by decide +kernel
theorem dX4_counted_105 : decode cX4_counted 105 = .ok (.invokevirtual 120, 3) := by decide +kernel
theorem dX4_counted_108 : decode cX4_counted 108 = .ok (.iconst 4, 1) := by decide +kernel
theorem dX4_counted_109 : decode cX4_counted 109 = .ok (.if_icmp .ne 7, 3) := by decide +kernel
theorem dX4_counted_112 : decode cX4_counted 112 = .ok (.iconst 1, 1) := by decide +kernel
theorem dX4_counted_113 : decode cX4_counted 113 = .ok (.goto 4, 3) := by decide +kernel
theorem dX4_counted_116 : decode cX4_counted 116 = .ok (.iconst 0, 1) := by decide +kernel
theorem dX4_counted_117 : decode cX4_counted 117 = .ok (.iadd, 1) := by decide +kernel
theorem dX4_counted_118 : decode cX4_counted 118 = .ok (.istore 5, 2) := by decide +kernel
theorem dX4_counted_120 : decode cX4_counted 120 = .ok (.iinc 6 1, 3) := by decide +kernel
theorem dX4_counted_123 : decode cX4_counted 123 = .ok (.goto (-33), 3) := by decide +kernel
theorem dX4_counted_126 : decode cX4_counted 126 = .ok (.bipush 8, 2) := by decide +kernel
theorem dX4_counted_128 : decode cX4_counted 128 = .ok (.newarray .int, 2) := by decide +kernel
theorem dX4_counted_130 : decode cX4_counted 130 = .ok (.dup, 1) := by decide +kernel
theorem dX4_counted_131 : decode cX4_counted 131 = .ok (.iconst 0, 1) := by decide +kernel
theorem dX4_counted_132 : decode cX4_counted 132 = .ok (.aload_n 0, 1) := by decide +kernel
theorem dX4_counted_133 : decode cX4_counted 133 = .ok (.getfield 77, 3) := by decide +kernel
theorem dX4_counted_136 : decode cX4_counted 136 = .ok (.iastore, 1) := by decide +kernel
theorem dX4_counted_137 : decode cX4_counted 137 = .ok (.dup, 1) := by decide +kernel
theorem dX4_counted_138 : decode cX4_counted 138 = .ok (.iconst 1, 1) := by decide +kernel
theorem dX4_counted_139 : decode cX4_counted 139 = .ok (.aload_n 0, 1) := by decide +kernel
theorem dX4_counted_140 : decode cX4_counted 140 = .ok (.getfield 44, 3) := by decide +kernel
theorem dX4_counted_143 : decode cX4_counted 143 = .ok (.iastore, 1) := by decide +kernel
theorem dX4_counted_144 : decode cX4_counted 144 = .ok (.dup, 1) := by decide +kernel
theorem dX4_counted_145 : decode cX4_counted 145 = .ok (.iconst 2, 1) := by decide +kernel
theorem dX4_counted_146 : decode cX4_counted 146 = .ok (.iload_n 2, 1) := by decide +kernel
theorem dX4_counted_147 : decode cX4_counted 147 = .ok (.iastore, 1) := by decide +kernel
theorem dX4_counted_148 : decode cX4_counted 148 = .ok (.dup, 1) := by decide +kernel
theorem dX4_counted_149 : decode cX4_counted 149 = .ok (.iconst 3, 1) := by decide +kernel
theorem dX4_counted_150 : decode cX4_counted 150 = .ok (.aload_n 0, 1) := by decide +kernel
theorem dX4_counted_151 : decode cX4_counted 151 = .ok (.getfield 51, 3) := by decide +kernel
theorem dX4_counted_154 : decode cX4_counted 154 = .ok (.iastore, 1) := by decide +kernel
theorem dX4_counted_155 : decode cX4_counted 155 = .ok (.dup, 1) := by decide +kernel
theorem dX4_counted_156 : decode cX4_counted 156 = .ok (.iconst 4, 1) := by decide +kernel
theorem dX4_counted_157 : decode cX4_counted 157 = .ok (.iload 4, 2) := by decide +kernel
theorem dX4_counted_159 : decode cX4_counted 159 = .ok (.iastore, 1) := by decide +kernel
theorem dX4_counted_160 : decode cX4_counted 160 = .ok (.dup, 1) := by decide +kernel
theorem dX4_counted_161 : decode cX4_counted 161 = .ok (.iconst 5, 1) := by decide +kernel
theorem dX4_counted_162 : decode cX4_counted 162 = .ok (.aload_n 0, 1) := by decide +kernel
theorem dX4_counted_163 : decode cX4_counted 163 = .ok (.getfield 54, 3) := by decide +kernel
theorem dX4_counted_166 : decode cX4_counted 166 = .ok (.iastore, 1) := by decide +kernel
theorem dX4_counted_167 : decode cX4_counted 167 = .ok (.dup, 1) := by decide +kernel
theorem dX4_counted_168 : decode cX4_counted 168 = .ok (.bipush 6, 2) := by decide +kernel
theorem dX4_counted_170 : decode cX4_counted 170 = .ok (.iload 5, 2) := by decide +kernel
theorem dX4_counted_172 : decode cX4_counted 172 = .ok (.iastore, 1) := by decide +kernel
theorem dX4_counted_173 : decode cX4_counted 173 = .ok (.dup, 1) := by decide +kernel
theorem dX4_counted_174 : decode cX4_counted 174 = .ok (.bipush 7, 2) := by decide +kernel
theorem dX4_counted_176 : decode cX4_counted 176 = .ok (.iload_n 3, 1) := by decide +kernel
theorem dX4_counted_177 : decode cX4_counted 177 = .ok (.iastore, 1) := by decide +kernel
theorem dX4_counted_178 : decode cX4_counted 178 = .ok (.astore 6, 2) := by decide +kernel
theorem dX4_counted_180 : decode cX4_counted 180 = .ok (.aload 6, 2) := by decide +kernel
theorem dX4_counted_182 : decode cX4_counted 182 = .ok (.iload_n 1, 1) := by decide +kernel
theorem dX4_counted_183 : decode cX4_counted 183 = .ok (.iaload, 1) := by decide +kernel
theorem dX4_counted_184 : decode cX4_counted 184 = .ok (.ireturn, 1) := by decide +kernel
set_option maxRecDepth 20000 in
theorem ggX4_count_X4_isIn : GoodIn wsX4_count wsX4_isIn := goodIn_r _ [5] (by decide +kernel) (by decide +kernel)
set_option maxRecDepth 20000 in
theorem gX4_count_X4_isIn : GoodIn wsX4_count (va_wsS RX4 47 yX4_isIn wsX4_isIn) := goodIn_app (goodIn_of _ (by decide +kernel)) ggX4_count_X4_isIn
set_option maxRecDepth 20000 in
theorem ggX4_count_X4_counted : GoodIn wsX4_count wsX4_counted := goodIn_r _ [9, 10, 11, 12, 13, 14, 15, 16, 17, 18, 19, 20, 4, 21, 22, 23, 24, 25, 26, 27, 28, 29, 30, 31, 32, 33, 34, 35, 36, 37, 38, 39, 44, 45, 46, 47, 48, 49, 50, 51, 52, 53, 54, 55, 56, 57, 58] (by decide +kernel) (by decide +kernel)
set_option maxRecDepth 20000 in
theorem gX4_count_X4_counted : GoodIn wsX4_count (wsV RX4 123 RX4 yX4_counted wsX4_counted) := goodIn_app (goodIn_of _ (by decide +kernel)) ggX4_count_X4_counted
set_option maxRecDepth 20000 in
theorem ggX4_count_X4_no : GoodIn wsX4_count wsX4_no := goodIn_r _ [43, 1, 44, 45, 46, 47, 48, 49, 50, 51, 52, 53, 54, 55, 56, 57, 58] (by decide +kernel) (by decide +kernel)
set_option maxRecDepth 20000 in
theorem gX4_count_X4_no : GoodIn wsX4_count (wsV RX4 67 RX4 yX4_no wsX4_no) := goodIn_app (goodIn_of _ (by decide +kernel)) ggX4_count_X4_no
theorem dX4_count_0 : decode cX4_count 0 = .ok (.aload_n 0, 1) := by decide +kernel
theorem dX4_count_1 : decode cX4_count 1 = .ok (.iconst 0, 1) := by decide +kernel
theorem dX4_count_2 : decode cX4_count 2 = .ok (.putfield 41, 3) := by decide +kernel
theorem dX4_count_5 : decode cX4_count 5 = .ok (.iload_n 1, 1) := by decide +kernel
theorem dX4_count_6 : decode cX4_count 6 = .ok (.iconst 0, 1) := by decide +kernel
theorem dX4_count_7 : decode cX4_count 7 = .ok (.bipush 7, 2) := by decide +kernel
theorem dX4_count_9 : decode cX4_count 9 = .ok (.invokestatic 47, 3) := by decide +kernel
theorem dX4_count_12 : decode cX4_count 12 = .ok (.ifCond .eq 11, 3) := by decide +kernel
theorem dX4_count_15 : decode cX4_count 15 = .ok (.aload_n 0, 1) := by decide +kernel
theorem dX4_count_16 : decode cX4_count 16 = .ok (.iload_n 1, 1) := by decide +kernel
theorem dX4_count_17 : decode cX4_count 17 = .ok (.invokevirtual 123, 3) := by decide +kernel
theorem dX4_count_20 : decode cX4_count 20 = .ok (.goto 8, 3) := by decide +kernel
theorem dX4_count_23 : decode cX4_count 23 = .ok (.aload_n 0, 1) := by decide +kernel
theorem dX4_count_24 : decode cX4_count 24 = .ok (.iconst 1, 1) := by decide +kernel
theorem dX4_count_25 : decode cX4_count 25 = .ok (.invokevirtual 67, 3) := by decide +kernel
theorem dX4_count_28 : decode cX4_count 28 = .ok (.ireturn, 1) := by decide +kernel
set_option maxRecDepth 20000 in
theorem ggX4_again_X4_isCane : GoodIn wsX4_again wsX4_isCane := goodIn_r _ [9, 10, 11, 12, 8, 13, 29, 30, 31, 32, 33, 34, 35, 36, 37, 38, 39, 40, 41, 42, 43] (by decide +kernel) (by decide +kernel)
set_option maxRecDepth 20000 in
theorem gX4_again_X4_isCane : GoodIn wsX4_again (wsV RX4 83 RX4 yX4_isCane wsX4_isCane) := goodIn_app (goodIn_of _ (by decide +kernel)) ggX4_again_X4_isCane
set_option maxRecDepth 20000 in
theorem ggX4_again_X4_isIn : GoodIn wsX4_again wsX4_isIn := goodIn_r _ [13] (by decide +kernel) (by decide +kernel)
set_option maxRecDepth 20000 in
theorem gX4_again_X4_isIn : GoodIn wsX4_again (va_wsS RX4 47 yX4_isIn wsX4_isIn) := goodIn_app (goodIn_of _ (by decide +kernel)) ggX4_again_X4_isIn
set_option maxRecDepth 20000 in
theorem ggX4_again_X4_no : GoodIn wsX4_again wsX4_no := goodIn_r _ [17, 1, 29, 30, 31, 32, 33, 34, 35, 36, 37, 38, 39, 40, 41, 42, 43] (by decide +kernel) (by decide +kernel)
set_option maxRecDepth 20000 in
theorem gX4_again_X4_no : GoodIn wsX4_again (wsV RX4 67 RX4 yX4_no wsX4_no) := goodIn_app (goodIn_of _ (by decide +kernel)) ggX4_again_X4_no
set_option maxRecDepth 20000 in
theorem ggX4_again_X4_areAlike : GoodIn wsX4_again wsX4_areAlike := goodIn_r _ [20, 21, 22, 8, 23, 24, 25, 26, 27, 28] (by decide +kernel) (by decide +kernel)
set_option maxRecDepth 20000 in
theorem gX4_again_X4_areAlike : GoodIn wsX4_again (va_wsS RX4 113 yX4_areAlike wsX4_areAlike) := goodIn_app (goodIn_of _ (by decide +kernel)) ggX4_again_X4_areAlike
theorem dX4_again_0 : decode cX4_again 0 = .ok (.aload_n 0, 1) := by decide +kernel
theorem dX4_again_1 : decode cX4_again 1 = .ok (.iconst 0, 1) := by decide +kernel
theorem dX4_again_2 : decode cX4_again 2 = .ok (.putfield 41, 3) := by decide +kernel
theorem dX4_again_5 : decode cX4_again 5 = .ok (.aload_n 0, 1) := by decide +kernel
theorem dX4_again_6 : decode cX4_again 6 = .ok (.iload_n 1, 1) := by decide +kernel
theorem dX4_again_7 : decode cX4_again 7 = .ok (.invokevirtual 83, 3) := by decide +kernel
theorem dX4_again_10 : decode cX4_again 10 = .ok (.ifCond .eq 19, 3) := by decide +kernel
theorem dX4_again_13 : decode cX4_again 13 = .ok (.iload_n 2, 1) := by decide +kernel
theorem dX4_again_14 : decode cX4_again 14 = .ok (.iconst 0, 1) := by decide +kernel
theorem dX4_again_15 : decode cX4_again 15 = .ok (.aload_n 0, 1) := by decide +kernel
theorem dX4_again_16 : decode cX4_again 16 = .ok (.getfield 13, 3) := by decide +kernel
theorem dX4_again_19 : decode cX4_again 19 = .ok (.iload_n 1, 1) := by decide +kernel
theorem dX4_again_20 : decode cX4_again 20 = .ok (.iaload, 1) := by decide +kernel
theorem dX4_again_21 : decode cX4_again 21 = .ok (.iconst 1, 1) := by decide +kernel
theorem dX4_again_22 : decode cX4_again 22 = .ok (.isub, 1) := by decide +kernel
theorem dX4_again_23 : decode cX4_again 23 = .ok (.invokestatic 47, 3) := by decide +kernel
theorem dX4_again_26 : decode cX4_again 26 = .ok (.ifCond .ne 9, 3) := by decide +kernel
theorem dX4_again_29 : decode cX4_again 29 = .ok (.aload_n 0, 1) := by decide +kernel
theorem dX4_again_30 : decode cX4_again 30 = .ok (.iconst 1, 1) := by decide +kernel
theorem dX4_again_31 : decode cX4_again 31 = .ok (.invokevirtual 67, 3) := by decide +kernel
theorem dX4_again_34 : decode cX4_again 34 = .ok (.ireturn, 1) := by decide +kernel
theorem dX4_again_35 : decode cX4_again 35 = .ok (.iload_n 2, 1) := by decide +kernel
theorem dX4_again_36 : decode cX4_again 36 = .ok (.iconst 1, 1) := by decide +kernel
theorem dX4_again_37 : decode cX4_again 37 = .ok (.iadd, 1) := by decide +kernel
theorem dX4_again_38 : decode cX4_again 38 = .ok (.istore_n 3, 1) := by decide +kernel
theorem dX4_again_39 : decode cX4_again 39 = .ok (.iload_n 3, 1) := by decide +kernel
theorem dX4_again_40 : decode cX4_again 40 = .ok (.aload_n 0, 1) := by decide +kernel
theorem dX4_again_41 : decode cX4_again 41 = .ok (.getfield 13, 3) := by decide +kernel
theorem dX4_again_44 : decode cX4_again 44 = .ok (.iload_n 1, 1) := by decide +kernel
theorem dX4_again_45 : decode cX4_again 45 = .ok (.iaload, 1) := by decide +kernel
theorem dX4_again_46 : decode cX4_again 46 = .ok (.if_icmp .ge 37, 3) := by decide +kernel
theorem dX4_again_49 : decode cX4_again 49 = .ok (.aload_n 0, 1) := by decide +kernel
theorem dX4_again_50 : decode cX4_again 50 = .ok (.getfield 26, 3) := by decide +kernel
theorem dX4_again_53 : decode cX4_again 53 = .ok (.iload_n 1, 1) := by decide +kernel
theorem dX4_again_54 : decode cX4_again 54 = .ok (.aload_n 0, 1) := by decide +kernel
theorem dX4_again_55 : decode cX4_again 55 = .ok (.getfield 17, 3) := by decide +kernel
theorem dX4_again_58 : decode cX4_again 58 = .ok (.iload_n 1, 1) := by decide +kernel
theorem dX4_again_59 : decode cX4_again 59 = .ok (.iaload, 1) := by decide +kernel
theorem dX4_again_60 : decode cX4_again 60 = .ok (.iload_n 3, 1) := by decide +kernel
theorem dX4_again_61 : decode cX4_again 61 = .ok (.iload_n 2, 1) := by decide +kernel
theorem dX4_again_62 : decode cX4_again 62 = .ok (.isub, 1) := by decide +kernel
theorem dX4_again_63 : decode cX4_again 63 = .ok (.imul, 1) := by decide +kernel
theorem dX4_again_64 : decode cX4_again 64 = .ok (.aload_n 0, 1) := by decide +kernel
theorem dX4_again_65 : decode cX4_again 65 = .ok (.getfield 26, 3) := by decide +kernel
theorem dX4_again_68 : decode cX4_again 68 = .ok (.iload_n 1, 1) := by decide +kernel
theorem dX4_again_69 : decode cX4_again 69 = .ok (.invokestatic 113, 3) := by decide +kernel
theorem dX4_again_72 : decode cX4_again 72 = .ok (.ifCond .eq 5, 3) := by decide +kernel
theorem dX4_again_75 : decode cX4_again 75 = .ok (.iload_n 3, 1) := by decide +kernel
theorem dX4_again_76 : decode cX4_again 76 = .ok (.ireturn, 1) := by decide +kernel
theorem dX4_again_77 : decode cX4_again 77 = .ok (.iinc 3 1, 3) := by decide +kernel
theorem dX4_again_80 : decode cX4_again 80 = .ok (.goto (-41), 3) := by decide +kernel
theorem dX4_again_83 : decode cX4_again 83 = .ok (.iconst (-1), 1) := by decide +kernel
theorem dX4_again_84 : decode cX4_again 84 = .ok (.ireturn, 1) := by decide +kernel
set_option maxRecDepth 20000 in
theorem ggX4_turnTo_X4_areAlike : GoodIn wsX4_turnTo wsX4_areAlike := goodIn_r _ [5, 6, 7, 4, 8, 9, 10, 11, 12, 13] (by decide +kernel) (by decide +kernel)
set_option maxRecDepth 20000 in
theorem gX4_turnTo_X4_areAlike : GoodIn wsX4_turnTo (va_wsS RX4 113 yX4_areAlike wsX4_areAlike) := goodIn_app (goodIn_of _ (by decide +kernel)) ggX4_turnTo_X4_areAlike
theorem dX4_turnTo_0 : decode cX4_turnTo 0 = .ok (.iconst 0, 1) := by decide +kernel
theorem dX4_turnTo_1 : decode cX4_turnTo 1 = .ok (.istore_n 3, 1) := by decide +kernel
theorem dX4_turnTo_2 : decode cX4_turnTo 2 = .ok (.iload_n 3, 1) := by decide +kernel
theorem dX4_turnTo_3 : decode cX4_turnTo 3 = .ok (.bipush 8, 2) := by decide +kernel
theorem dX4_turnTo_5 : decode cX4_turnTo 5 = .ok (.if_icmp .ge 28, 3) := by decide +kernel
theorem dX4_turnTo_8 : decode cX4_turnTo 8 = .ok (.aload_n 0, 1) := by decide +kernel
theorem dX4_turnTo_9 : decode cX4_turnTo 9 = .ok (.getfield 29, 3) := by decide +kernel
theorem dX4_turnTo_12 : decode cX4_turnTo 12 = .ok (.iload_n 1, 1) := by decide +kernel
theorem dX4_turnTo_13 : decode cX4_turnTo 13 = .ok (.iload_n 3, 1) := by decide +kernel
theorem dX4_turnTo_14 : decode cX4_turnTo 14 = .ok (.aload_n 0, 1) := by decide +kernel
theorem dX4_turnTo_15 : decode cX4_turnTo 15 = .ok (.getfield 29, 3) := by decide +kernel
theorem dX4_turnTo_18 : decode cX4_turnTo 18 = .ok (.iload_n 2, 1) := by decide +kernel
theorem dX4_turnTo_19 : decode cX4_turnTo 19 = .ok (.invokestatic 113, 3) := by decide +kernel
theorem dX4_turnTo_22 : decode cX4_turnTo 22 = .ok (.ifCond .eq 5, 3) := by decide +kernel
theorem dX4_turnTo_25 : decode cX4_turnTo 25 = .ok (.iload_n 3, 1) := by decide +kernel
theorem dX4_turnTo_26 : decode cX4_turnTo 26 = .ok (.ireturn, 1) := by decide +kernel
theorem dX4_turnTo_27 : decode cX4_turnTo 27 = .ok (.iinc 3 1, 3) := by decide +kernel
theorem dX4_turnTo_30 : decode cX4_turnTo 30 = .ok (.goto (-28), 3) := by decide +kernel
theorem dX4_turnTo_33 : decode cX4_turnTo 33 = .ok (.iconst (-1), 1) := by decide +kernel
theorem dX4_turnTo_34 : decode cX4_turnTo 34 = .ok (.ireturn, 1) := by decide +kernel
set_option maxRecDepth 20000 in
theorem ggX4_turn_X4_isSlice : GoodIn wsX4_turn wsX4_isSlice := goodIn_r _ [6, 7, 8, 9, 5, 10, 31, 32, 33, 34, 35, 36, 37, 38, 39, 40, 41, 42, 43, 44, 45] (by decide +kernel) (by decide +kernel)
set_option maxRecDepth 20000 in
theorem gX4_turn_X4_isSlice : GoodIn wsX4_turn (wsV RX4 104 RX4 yX4_isSlice wsX4_isSlice) := goodIn_app (goodIn_of _ (by decide +kernel)) ggX4_turn_X4_isSlice
set_option maxRecDepth 20000 in
theorem ggX4_turn_X4_turnTo : GoodIn wsX4_turn wsX4_turnTo := goodIn_r _ [14, 15, 16, 17, 5, 18, 19, 20, 21, 22, 23, 24, 25, 26, 31, 32, 33, 34, 35, 36, 37, 38, 39, 40, 41, 42, 43, 44, 45] (by decide +kernel) (by decide +kernel)
set_option maxRecDepth 20000 in
theorem gX4_turn_X4_turnTo : GoodIn wsX4_turn (wsV RX4 126 RX4 yX4_turnTo wsX4_turnTo) := goodIn_app (goodIn_of _ (by decide +kernel)) ggX4_turn_X4_turnTo
set_option maxRecDepth 20000 in
theorem ggX4_turn_X4_no : GoodIn wsX4_turn wsX4_no := goodIn_r _ [30, 1, 31, 32, 33, 34, 35, 36, 37, 38, 39, 40, 41, 42, 43, 44, 45] (by decide +kernel) (by decide +kernel)
set_option maxRecDepth 20000 in
theorem gX4_turn_X4_no : GoodIn wsX4_turn (wsV RX4 67 RX4 yX4_no wsX4_no) := goodIn_app (goodIn_of _ (by decide +kernel)) ggX4_turn_X4_no
theorem dX4_turn_0 : decode cX4_turn 0 = .ok (.aload_n 0, 1) := by decide +kernel
theorem dX4_turn_1 : decode cX4_turn 1 = .ok (.iconst 0, 1) := by decide +kernel
theorem dX4_turn_2 : decode cX4_turn 2 = .ok (.putfield 41, 3) := by decide +kernel
theorem dX4_turn_5 : decode cX4_turn 5 = .ok (.aload_n 0, 1) := by decide +kernel
theorem dX4_turn_6 : decode cX4_turn 6 = .ok (.iload_n 1, 1) := by decide +kernel
theorem dX4_turn_7 : decode cX4_turn 7 = .ok (.invokevirtual 104, 3) := by decide +kernel
theorem dX4_turn_10 : decode cX4_turn 10 = .ok (.ifCond .eq 20, 3) := by decide +kernel
theorem dX4_turn_13 : decode cX4_turn 13 = .ok (.aload_n 0, 1) := by decide +kernel
theorem dX4_turn_14 : decode cX4_turn 14 = .ok (.iload_n 2, 1) := by decide +kernel
theorem dX4_turn_15 : decode cX4_turn 15 = .ok (.invokevirtual 104, 3) := by decide +kernel
theorem dX4_turn_18 : decode cX4_turn 18 = .ok (.ifCond .eq 12, 3) := by decide +kernel
theorem dX4_turn_21 : decode cX4_turn 21 = .ok (.aload_n 0, 1) := by decide +kernel
theorem dX4_turn_22 : decode cX4_turn 22 = .ok (.iload_n 1, 1) := by decide +kernel
theorem dX4_turn_23 : decode cX4_turn 23 = .ok (.iload_n 2, 1) := by decide +kernel
theorem dX4_turn_24 : decode cX4_turn 24 = .ok (.invokevirtual 126, 3) := by decide +kernel
theorem dX4_turn_27 : decode cX4_turn 27 = .ok (.goto 8, 3) := by decide +kernel
theorem dX4_turn_30 : decode cX4_turn 30 = .ok (.aload_n 0, 1) := by decide +kernel
theorem dX4_turn_31 : decode cX4_turn 31 = .ok (.iconst 1, 1) := by decide +kernel
theorem dX4_turn_32 : decode cX4_turn 32 = .ok (.invokevirtual 67, 3) := by decide +kernel
theorem dX4_turn_35 : decode cX4_turn 35 = .ok (.ireturn, 1) := by decide +kernel
set_option maxRecDepth 20000 in
theorem ggX4_cuts_X4_isCane : GoodIn wsX4_cuts wsX4_isCane := goodIn_r _ [10, 11, 12, 13, 9, 14, 35, 36, 37, 38, 39, 40, 41, 42, 43, 44, 45, 46, 47, 48, 49] (by decide +kernel) (by decide +kernel)
set_option maxRecDepth 20000 in
theorem gX4_cuts_X4_isCane : GoodIn wsX4_cuts (wsV RX4 83 RX4 yX4_isCane wsX4_isCane) := goodIn_app (goodIn_of _ (by decide +kernel)) ggX4_cuts_X4_isCane
set_option maxRecDepth 20000 in
theorem ggX4_cuts_X4_isSlice : GoodIn wsX4_cuts wsX4_isSlice := goodIn_r _ [18, 19, 12, 13, 9, 14, 35, 36, 37, 38, 39, 40, 41, 42, 43, 44, 45, 46, 47, 48, 49] (by decide +kernel) (by decide +kernel)
set_option maxRecDepth 20000 in
theorem gX4_cuts_X4_isSlice : GoodIn wsX4_cuts (wsV RX4 104 RX4 yX4_isSlice wsX4_isSlice) := goodIn_app (goodIn_of _ (by decide +kernel)) ggX4_cuts_X4_isSlice
set_option maxRecDepth 20000 in
theorem ggX4_cuts_X4_no : GoodIn wsX4_cuts wsX4_no := goodIn_r _ [23, 1, 35, 36, 37, 38, 39, 40, 41, 42, 43, 44, 45, 46, 47, 48, 49] (by decide +kernel) (by decide +kernel)
set_option maxRecDepth 20000 in
theorem gX4_cuts_X4_no : GoodIn wsX4_cuts (wsV RX4 67 RX4 yX4_no wsX4_no) := goodIn_app (goodIn_of _ (by decide +kernel)) ggX4_cuts_X4_no
set_option maxRecDepth 20000 in
theorem ggX4_cuts_X4_areAlike : GoodIn wsX4_cuts wsX4_areAlike := goodIn_r _ [26, 27, 28, 9, 29, 30, 31, 32, 33, 34] (by decide +kernel) (by decide +kernel)
set_option maxRecDepth 20000 in
theorem gX4_cuts_X4_areAlike : GoodIn wsX4_cuts (va_wsS RX4 113 yX4_areAlike wsX4_areAlike) := goodIn_app (goodIn_of _ (by decide +kernel)) ggX4_cuts_X4_areAlike
theorem dX4_cuts_0 : decode cX4_cuts 0 = .ok (.aload_n 0, 1) := by decide +kernel
theorem dX4_cuts_1 : decode cX4_cuts 1 = .ok (.iconst 0, 1) := by decide +kernel
theorem dX4_cuts_2 : decode cX4_cuts 2 = .ok (.putfield 41, 3) := by decide +kernel
theorem dX4_cuts_5 : decode cX4_cuts 5 = .ok (.aload_n 0, 1) := by decide +kernel
theorem dX4_cuts_6 : decode cX4_cuts 6 = .ok (.iload_n 1, 1) := by decide +kernel
theorem dX4_cuts_7 : decode cX4_cuts 7 = .ok (.invokevirtual 83, 3) := by decide +kernel
theorem dX4_cuts_10 : decode cX4_cuts 10 = .ok (.ifCond .eq 11, 3) := by decide +kernel
theorem dX4_cuts_13 : decode cX4_cuts 13 = .ok (.aload_n 0, 1) := by decide +kernel
theorem dX4_cuts_14 : decode cX4_cuts 14 = .ok (.iload_n 2, 1) := by decide +kernel
theorem dX4_cuts_15 : decode cX4_cuts 15 = .ok (.invokevirtual 104, 3) := by decide +kernel
theorem dX4_cuts_18 : decode cX4_cuts 18 = .ok (.ifCond .ne 9, 3) := by decide +kernel
theorem dX4_cuts_21 : decode cX4_cuts 21 = .ok (.aload_n 0, 1) := by decide +kernel
theorem dX4_cuts_22 : decode cX4_cuts 22 = .ok (.iconst 1, 1) := by decide +kernel
theorem dX4_cuts_23 : decode cX4_cuts 23 = .ok (.invokevirtual 67, 3) := by decide +kernel
theorem dX4_cuts_26 : decode cX4_cuts 26 = .ok (.ireturn, 1) := by decide +kernel
theorem dX4_cuts_27 : decode cX4_cuts 27 = .ok (.aload_n 0, 1) := by decide +kernel
theorem dX4_cuts_28 : decode cX4_cuts 28 = .ok (.getfield 13, 3) := by decide +kernel
theorem dX4_cuts_31 : decode cX4_cuts 31 = .ok (.iload_n 1, 1) := by decide +kernel
theorem dX4_cuts_32 : decode cX4_cuts 32 = .ok (.iaload, 1) := by decide +kernel
theorem dX4_cuts_33 : decode cX4_cuts 33 = .ok (.iconst 1, 1) := by decide +kernel
theorem dX4_cuts_34 : decode cX4_cuts 34 = .ok (.isub, 1) := by decide +kernel
theorem dX4_cuts_35 : decode cX4_cuts 35 = .ok (.istore_n 3, 1) := by decide +kernel
theorem dX4_cuts_36 : decode cX4_cuts 36 = .ok (.iload_n 3, 1) := by decide +kernel
theorem dX4_cuts_37 : decode cX4_cuts 37 = .ok (.ifCond .lt 42, 3) := by decide +kernel
theorem dX4_cuts_40 : decode cX4_cuts 40 = .ok (.aload_n 0, 1) := by decide +kernel
theorem dX4_cuts_41 : decode cX4_cuts 41 = .ok (.getfield 26, 3) := by decide +kernel
theorem dX4_cuts_44 : decode cX4_cuts 44 = .ok (.iload_n 1, 1) := by decide +kernel
theorem dX4_cuts_45 : decode cX4_cuts 45 = .ok (.aload_n 0, 1) := by decide +kernel
theorem dX4_cuts_46 : decode cX4_cuts 46 = .ok (.getfield 17, 3) := by decide +kernel
theorem dX4_cuts_49 : decode cX4_cuts 49 = .ok (.iload_n 1, 1) := by decide +kernel
theorem dX4_cuts_50 : decode cX4_cuts 50 = .ok (.iaload, 1) := by decide +kernel
theorem dX4_cuts_51 : decode cX4_cuts 51 = .ok (.iload_n 3, 1) := by decide +kernel
theorem dX4_cuts_52 : decode cX4_cuts 52 = .ok (.imul, 1) := by decide +kernel
theorem dX4_cuts_53 : decode cX4_cuts 53 = .ok (.aload_n 0, 1) := by decide +kernel
theorem dX4_cuts_54 : decode cX4_cuts 54 = .ok (.getfield 29, 3) := by decide +kernel
theorem dX4_cuts_57 : decode cX4_cuts 57 = .ok (.iload_n 2, 1) := by decide +kernel
theorem dX4_cuts_58 : decode cX4_cuts 58 = .ok (.invokestatic 113, 3) := by decide +kernel
theorem dX4_cuts_61 : decode cX4_cuts 61 = .ok (.ifCond .eq 12, 3) := by decide +kernel
theorem dX4_cuts_64 : decode cX4_cuts 64 = .ok (.aload_n 0, 1) := by decide +kernel
theorem dX4_cuts_65 : decode cX4_cuts 65 = .ok (.getfield 13, 3) := by decide +kernel
theorem dX4_cuts_68 : decode cX4_cuts 68 = .ok (.iload_n 1, 1) := by decide +kernel
theorem dX4_cuts_69 : decode cX4_cuts 69 = .ok (.iaload, 1) := by decide +kernel
theorem dX4_cuts_70 : decode cX4_cuts 70 = .ok (.iload_n 3, 1) := by decide +kernel
theorem dX4_cuts_71 : decode cX4_cuts 71 = .ok (.isub, 1) := by decide +kernel
theorem dX4_cuts_72 : decode cX4_cuts 72 = .ok (.ireturn, 1) := by decide +kernel
theorem dX4_cuts_73 : decode cX4_cuts 73 = .ok (.iinc 3 (-1), 3) := by decide +kernel
theorem dX4_cuts_76 : decode cX4_cuts 76 = .ok (.goto (-40), 3) := by decide +kernel
theorem dX4_cuts_79 : decode cX4_cuts 79 = .ok (.iconst (-1), 1) := by decide +kernel
theorem dX4_cuts_80 : decode cX4_cuts 80 = .ok (.ireturn, 1) := by decide +kernel
set_option maxRecDepth 20000 in
theorem ggX4_free_X4_turnTo : GoodIn wsX4_free wsX4_turnTo := goodIn_r _ [7, 8, 9, 10, 6, 11, 12, 13, 14, 15, 16, 17, 18, 19, 20, 21, 22, 23, 24, 25, 26, 27, 28, 29, 30, 31, 32, 33, 34] (by decide +kernel) (by decide +kernel)
set_option maxRecDepth 20000 in
theorem gX4_free_X4_turnTo : GoodIn wsX4_free (wsV RX4 126 RX4 yX4_turnTo wsX4_turnTo) := goodIn_app (goodIn_of _ (by decide +kernel)) ggX4_free_X4_turnTo
theorem dX4_free_0 : decode cX4_free 0 = .ok (.iconst 0, 1) := by decide +kernel
theorem dX4_free_1 : decode cX4_free 1 = .ok (.istore_n 2, 1) := by decide +kernel
theorem dX4_free_2 : decode cX4_free 2 = .ok (.iconst 0, 1) := by decide +kernel
theorem dX4_free_3 : decode cX4_free 3 = .ok (.istore_n 3, 1) := by decide +kernel
theorem dX4_free_4 : decode cX4_free 4 = .ok (.iload_n 3, 1) := by decide +kernel
theorem dX4_free_5 : decode cX4_free 5 = .ok (.aload_n 0, 1) := by decide +kernel
theorem dX4_free_6 : decode cX4_free 6 = .ok (.getfield 51, 3) := by decide +kernel
theorem dX4_free_9 : decode cX4_free 9 = .ok (.if_icmp .ge 37, 3) := by decide +kernel
theorem dX4_free_12 : decode cX4_free 12 = .ok (.iload_n 2, 1) := by decide +kernel
theorem dX4_free_13 : decode cX4_free 13 = .ok (.aload_n 0, 1) := by decide +kernel
theorem dX4_free_14 : decode cX4_free 14 = .ok (.getfield 32, 3) := by decide +kernel
theorem dX4_free_17 : decode cX4_free 17 = .ok (.iload_n 3, 1) := by decide +kernel
theorem dX4_free_18 : decode cX4_free 18 = .ok (.iaload, 1) := by decide +kernel
theorem dX4_free_19 : decode cX4_free 19 = .ok (.iconst (-1), 1) := by decide +kernel
theorem dX4_free_20 : decode cX4_free 20 = .ok (.if_icmp .ne 17, 3) := by decide +kernel
theorem dX4_free_23 : decode cX4_free 23 = .ok (.aload_n 0, 1) := by decide +kernel
theorem dX4_free_24 : decode cX4_free 24 = .ok (.iload_n 3, 1) := by decide +kernel
theorem dX4_free_25 : decode cX4_free 25 = .ok (.iload_n 1, 1) := by decide +kernel
theorem dX4_free_26 : decode cX4_free 26 = .ok (.invokevirtual 126, 3) := by decide +kernel
theorem dX4_free_29 : decode cX4_free 29 = .ok (.iconst (-1), 1) := by decide +kernel
theorem dX4_free_30 : decode cX4_free 30 = .ok (.if_icmp .eq 7, 3) := by decide +kernel
theorem dX4_free_33 : decode cX4_free 33 = .ok (.iconst 1, 1) := by decide +kernel
theorem dX4_free_34 : decode cX4_free 34 = .ok (.goto 4, 3) := by decide +kernel
theorem dX4_free_37 : decode cX4_free 37 = .ok (.iconst 0, 1) := by decide +kernel
theorem dX4_free_38 : decode cX4_free 38 = .ok (.iadd, 1) := by decide +kernel
theorem dX4_free_39 : decode cX4_free 39 = .ok (.istore_n 2, 1) := by decide +kernel
theorem dX4_free_40 : decode cX4_free 40 = .ok (.iinc 3 1, 3) := by decide +kernel
theorem dX4_free_43 : decode cX4_free 43 = .ok (.goto (-39), 3) := by decide +kernel
theorem dX4_free_46 : decode cX4_free 46 = .ok (.iload_n 2, 1) := by decide +kernel
theorem dX4_free_47 : decode cX4_free 47 = .ok (.ireturn, 1) := by decide +kernel
set_option maxRecDepth 20000 in
theorem ggX4_mends_X4_isIn : GoodIn wsX4_mends wsX4_isIn := goodIn_r _ [13] (by decide +kernel) (by decide +kernel)
set_option maxRecDepth 20000 in
theorem gX4_mends_X4_isIn : GoodIn wsX4_mends (va_wsS RX4 47 yX4_isIn wsX4_isIn) := goodIn_app (goodIn_of _ (by decide +kernel)) ggX4_mends_X4_isIn
set_option maxRecDepth 20000 in
theorem ggX4_mends_X4_no : GoodIn wsX4_mends wsX4_no := goodIn_r _ [17, 1, 47, 48, 49, 50, 51, 52, 53, 54, 55, 56, 57, 58, 59, 60, 61] (by decide +kernel) (by decide +kernel)
set_option maxRecDepth 20000 in
theorem gX4_mends_X4_no : GoodIn wsX4_mends (wsV RX4 67 RX4 yX4_no wsX4_no) := goodIn_app (goodIn_of _ (by decide +kernel)) ggX4_mends_X4_no
set_option maxRecDepth 20000 in
theorem ggX4_mends_X4_twins : GoodIn wsX4_mends wsX4_twins := goodIn_r _ [21, 22, 23, 24, 12, 25, 3, 26, 27, 28, 29, 30, 31, 32, 33, 34, 35, 36, 37, 38, 47, 48, 49, 50, 51, 52, 53, 54, 55, 56, 57, 58, 59, 60, 61] (by decide +kernel) (by decide +kernel)
set_option maxRecDepth 20000 in
theorem gX4_mends_X4_twins : GoodIn wsX4_mends (wsV RX4 120 RX4 yX4_twins wsX4_twins) := goodIn_app (goodIn_of _ (by decide +kernel)) ggX4_mends_X4_twins
set_option maxRecDepth 20000 in
theorem ggX4_mends_X4_free : GoodIn wsX4_mends wsX4_free := goodIn_r _ [42, 8, 9, 43, 44, 45, 12, 46, 26, 28, 29, 30, 31, 32, 33, 34, 35, 36, 37, 38, 47, 48, 49, 50, 51, 52, 53, 54, 55, 56, 57, 58, 59, 60, 61] (by decide +kernel) (by decide +kernel)
set_option maxRecDepth 20000 in
theorem gX4_mends_X4_free : GoodIn wsX4_mends (wsV RX4 129 RX4 yX4_free wsX4_free) := goodIn_app (goodIn_of _ (by decide +kernel)) ggX4_mends_X4_free
theorem dX4_mends_0 : decode cX4_mends 0 = .ok (.aload_n 0, 1) := by decide +kernel
theorem dX4_mends_1 : decode cX4_mends 1 = .ok (.iconst 0, 1) := by decide +kernel
theorem dX4_mends_2 : decode cX4_mends 2 = .ok (.putfield 41, 3) := by decide +kernel
theorem dX4_mends_5 : decode cX4_mends 5 = .ok (.iload_n 1, 1) := by decide +kernel
theorem dX4_mends_6 : decode cX4_mends 6 = .ok (.iconst 0, 1) := by decide +kernel
theorem dX4_mends_7 : decode cX4_mends 7 = .ok (.aload_n 0, 1) := by decide +kernel
theorem dX4_mends_8 : decode cX4_mends 8 = .ok (.getfield 54, 3) := by decide +kernel
theorem dX4_mends_11 : decode cX4_mends 11 = .ok (.iconst 1, 1) := by decide +kernel
theorem dX4_mends_12 : decode cX4_mends 12 = .ok (.isub, 1) := by decide +kernel
theorem dX4_mends_13 : decode cX4_mends 13 = .ok (.invokestatic 47, 3) := by decide +kernel
theorem dX4_mends_16 : decode cX4_mends 16 = .ok (.ifCond .ne 9, 3) := by decide +kernel
theorem dX4_mends_19 : decode cX4_mends 19 = .ok (.aload_n 0, 1) := by decide +kernel
theorem dX4_mends_20 : decode cX4_mends 20 = .ok (.iconst 1, 1) := by decide +kernel
theorem dX4_mends_21 : decode cX4_mends 21 = .ok (.invokevirtual 67, 3) := by decide +kernel
theorem dX4_mends_24 : decode cX4_mends 24 = .ok (.ireturn, 1) := by decide +kernel
theorem dX4_mends_25 : decode cX4_mends 25 = .ok (.iconst 5, 1) := by decide +kernel
theorem dX4_mends_26 : decode cX4_mends 26 = .ok (.istore_n 2, 1) := by decide +kernel
theorem dX4_mends_27 : decode cX4_mends 27 = .ok (.iconst 0, 1) := by decide +kernel
theorem dX4_mends_28 : decode cX4_mends 28 = .ok (.istore_n 3, 1) := by decide +kernel
theorem dX4_mends_29 : decode cX4_mends 29 = .ok (.iload_n 3, 1) := by decide +kernel
theorem dX4_mends_30 : decode cX4_mends 30 = .ok (.iconst 4, 1) := by decide +kernel
theorem dX4_mends_31 : decode cX4_mends 31 = .ok (.if_icmp .ge 55, 3) := by decide +kernel
theorem dX4_mends_34 : decode cX4_mends 34 = .ok (.aload_n 0, 1) := by decide +kernel
theorem dX4_mends_35 : decode cX4_mends 35 = .ok (.getfield 35, 3) := by decide +kernel
theorem dX4_mends_38 : decode cX4_mends 38 = .ok (.iconst 4, 1) := by decide +kernel
theorem dX4_mends_39 : decode cX4_mends 39 = .ok (.iload_n 1, 1) := by decide +kernel
theorem dX4_mends_40 : decode cX4_mends 40 = .ok (.imul, 1) := by decide +kernel
theorem dX4_mends_41 : decode cX4_mends 41 = .ok (.iload_n 3, 1) := by decide +kernel
theorem dX4_mends_42 : decode cX4_mends 42 = .ok (.iadd, 1) := by decide +kernel
theorem dX4_mends_43 : decode cX4_mends 43 = .ok (.iaload, 1) := by decide +kernel
theorem dX4_mends_44 : decode cX4_mends 44 = .ok (.istore 4, 2) := by decide +kernel
theorem dX4_mends_46 : decode cX4_mends 46 = .ok (.iconst 4, 1) := by decide +kernel
theorem dX4_mends_47 : decode cX4_mends 47 = .ok (.aload_n 0, 1) := by decide +kernel
theorem dX4_mends_48 : decode cX4_mends 48 = .ok (.iload_n 1, 1) := by decide +kernel
theorem dX4_mends_49 : decode cX4_mends 49 = .ok (.iload_n 3, 1) := by decide +kernel
theorem dX4_mends_50 : decode cX4_mends 50 = .ok (.invokevirtual 120, 3) := by decide +kernel
theorem dX4_mends_53 : decode cX4_mends 53 = .ok (.isub, 1) := by decide +kernel
theorem dX4_mends_54 : decode cX4_mends 54 = .ok (.istore 5, 2) := by decide +kernel
theorem dX4_mends_56 : decode cX4_mends 56 = .ok (.iload 4, 2) := by decide +kernel
theorem dX4_mends_58 : decode cX4_mends 58 = .ok (.iconst (-1), 1) := by decide +kernel
theorem dX4_mends_59 : decode cX4_mends 59 = .ok (.if_icmp .eq 21, 3) := by decide +kernel
theorem dX4_mends_62 : decode cX4_mends 62 = .ok (.aload_n 0, 1) := by decide +kernel
theorem dX4_mends_63 : decode cX4_mends 63 = .ok (.iload 4, 2) := by decide +kernel
theorem dX4_mends_65 : decode cX4_mends 65 = .ok (.invokevirtual 129, 3) := by decide +kernel
theorem dX4_mends_68 : decode cX4_mends 68 = .ok (.iload 5, 2) := by decide +kernel
theorem dX4_mends_70 : decode cX4_mends 70 = .ok (.if_icmp .lt 10, 3) := by decide +kernel
theorem dX4_mends_73 : decode cX4_mends 73 = .ok (.iload_n 2, 1) := by decide +kernel
theorem dX4_mends_74 : decode cX4_mends 74 = .ok (.iload 5, 2) := by decide +kernel
theorem dX4_mends_76 : decode cX4_mends 76 = .ok (.invokestatic 71, 3) := by decide +kernel
theorem dX4_mends_79 : decode cX4_mends 79 = .ok (.istore_n 2, 1) := by decide +kernel
theorem dX4_mends_80 : decode cX4_mends 80 = .ok (.iinc 3 1, 3) := by decide +kernel
theorem dX4_mends_83 : decode cX4_mends 83 = .ok (.goto (-54), 3) := by decide +kernel
theorem dX4_mends_86 : decode cX4_mends 86 = .ok (.iconst 0, 1) := by decide +kernel
theorem dX4_mends_87 : decode cX4_mends 87 = .ok (.istore_n 3, 1) := by decide +kernel
theorem dX4_mends_88 : decode cX4_mends 88 = .ok (.iload_n 3, 1) := by decide +kernel
theorem dX4_mends_89 : decode cX4_mends 89 = .ok (.aload_n 0, 1) := by decide +kernel
theorem dX4_mends_90 : decode cX4_mends 90 = .ok (.getfield 51, 3) := by decide +kernel
theorem dX4_mends_93 : decode cX4_mends 93 = .ok (.if_icmp .ge 35, 3) := by decide +kernel
theorem dX4_mends_96 : decode cX4_mends 96 = .ok (.iload_n 2, 1) := by decide +kernel
theorem dX4_mends_97 : decode cX4_mends 97 = .ok (.iconst 4, 1) := by decide +kernel
theorem dX4_mends_98 : decode cX4_mends 98 = .ok (.if_icmp .le 30, 3) := by decide +kernel
theorem dX4_mends_101 : decode cX4_mends 101 = .ok (.aload_n 0, 1) := by decide +kernel
theorem dX4_mends_102 : decode cX4_mends 102 = .ok (.getfield 32, 3) := by decide +kernel
theorem dX4_mends_105 : decode cX4_mends 105 = .ok (.iload_n 3, 1) := by decide +kernel
theorem dX4_mends_106 : decode cX4_mends 106 = .ok (.iaload, 1) := by decide +kernel
theorem dX4_mends_107 : decode cX4_mends 107 = .ok (.iconst (-1), 1) := by decide +kernel
theorem dX4_mends_108 : decode cX4_mends 108 = .ok (.if_icmp .ne 14, 3) := by decide +kernel
theorem dX4_mends_111 : decode cX4_mends 111 = .ok (.aload_n 0, 1) := by decide +kernel
theorem dX4_mends_112 : decode cX4_mends 112 = .ok (.iload_n 3, 1) := by decide +kernel
theorem dX4_mends_113 : decode cX4_mends 113 = .ok (.invokevirtual 129, 3) := by decide +kernel
theorem dX4_mends_116 : decode cX4_mends 116 = .ok (.iconst 4, 1) := by decide +kernel
theorem dX4_mends_117 : decode cX4_mends 117 = .ok (.if_icmp .lt 5, 3) := by decide +kernel
theorem dX4_mends_120 : decode cX4_mends 120 = .ok (.iconst 4, 1) := by decide +kernel
theorem dX4_mends_121 : decode cX4_mends 121 = .ok (.istore_n 2, 1) := by decide +kernel
theorem dX4_mends_122 : decode cX4_mends 122 = .ok (.iinc 3 1, 3) := by decide +kernel
theorem dX4_mends_125 : decode cX4_mends 125 = .ok (.goto (-37), 3) := by decide +kernel
theorem dX4_mends_128 : decode cX4_mends 128 = .ok (.iload_n 2, 1) := by decide +kernel
theorem dX4_mends_129 : decode cX4_mends 129 = .ok (.iconst 4, 1) := by decide +kernel
theorem dX4_mends_130 : decode cX4_mends 130 = .ok (.if_icmp .le 7, 3) := by decide +kernel
theorem dX4_mends_133 : decode cX4_mends 133 = .ok (.iconst (-1), 1) := by decide +kernel
theorem dX4_mends_134 : decode cX4_mends 134 = .ok (.goto 4, 3) := by decide +kernel
theorem dX4_mends_137 : decode cX4_mends 137 = .ok (.iload_n 2, 1) := by decide +kernel
theorem dX4_mends_138 : decode cX4_mends 138 = .ok (.ireturn, 1) := by decide +kernel
set_option maxRecDepth 20000 in
theorem ggX4_mean_X4_allHeat : GoodIn wsX4_mean wsX4_allHeat := goodIn_r _ [7, 2, 8, 9, 10, 11, 12, 13, 14, 15, 16, 17, 18, 19, 20, 21, 22, 23] (by decide +kernel) (by decide +kernel)
set_option maxRecDepth 20000 in
theorem gX4_mean_X4_allHeat : GoodIn wsX4_mean (wsV RX4 94 RX4 yX4_allHeat wsX4_allHeat) := goodIn_app (goodIn_of _ (by decide +kernel)) ggX4_mean_X4_allHeat
theorem dX4_mean_0 : decode cX4_mean 0 = .ok (.aload_n 0, 1) := by decide +kernel
theorem dX4_mean_1 : decode cX4_mean 1 = .ok (.iconst 0, 1) := by decide +kernel
theorem dX4_mean_2 : decode cX4_mean 2 = .ok (.putfield 41, 3) := by decide +kernel
theorem dX4_mean_5 : decode cX4_mean 5 = .ok (.aload_n 0, 1) := by decide +kernel
theorem dX4_mean_6 : decode cX4_mean 6 = .ok (.getfield 44, 3) := by decide +kernel
theorem dX4_mean_9 : decode cX4_mean 9 = .ok (.ifCond .ne 7, 3) := by decide +kernel
theorem dX4_mean_12 : decode cX4_mean 12 = .ok (.dconst 0, 1) := by decide +kernel
theorem dX4_mean_13 : decode cX4_mean 13 = .ok (.goto 14, 3) := by decide +kernel
theorem dX4_mean_16 : decode cX4_mean 16 = .ok (.aload_n 0, 1) := by decide +kernel
theorem dX4_mean_17 : decode cX4_mean 17 = .ok (.invokevirtual 94, 3) := by decide +kernel
theorem dX4_mean_20 : decode cX4_mean 20 = .ok (.i2d, 1) := by decide +kernel
theorem dX4_mean_21 : decode cX4_mean 21 = .ok (.aload_n 0, 1) := by decide +kernel
theorem dX4_mean_22 : decode cX4_mean 22 = .ok (.getfield 44, 3) := by decide +kernel
theorem dX4_mean_25 : decode cX4_mean 25 = .ok (.i2d, 1) := by decide +kernel
theorem dX4_mean_26 : decode cX4_mean 26 = .ok (.ddiv, 1) := by decide +kernel
theorem dX4_mean_27 : decode cX4_mean 27 = .ok (.dreturn, 1) := by decide +kernel
set_option maxRecDepth 20000 in
theorem ggX4_with_X4_colourOf : GoodIn wsX4_with wsX4_colourOf := goodIn_r _ [5] (by decide +kernel) (by decide +kernel)
set_option maxRecDepth 20000 in
theorem gX4_with_X4_colourOf : GoodIn wsX4_with (va_wsS RX4 101 yX4_colourOf wsX4_colourOf) := goodIn_app (goodIn_of _ (by decide +kernel)) ggX4_with_X4_colourOf
theorem dX4_with_0 : decode cX4_with 0 = .ok (.lload_n 1, 1) := by decide +kernel
theorem dX4_with_1 : decode cX4_with 1 = .ok (.lstore 5, 2) := by decide +kernel
theorem dX4_with_3 : decode cX4_with 3 = .ok (.iconst 0, 1) := by decide +kernel
theorem dX4_with_4 : decode cX4_with 4 = .ok (.istore 7, 2) := by decide +kernel
theorem dX4_with_6 : decode cX4_with 6 = .ok (.iload 7, 2) := by decide +kernel
theorem dX4_with_8 : decode cX4_with 8 = .ok (.bipush 24, 2) := by decide +kernel
theorem dX4_with_10 : decode cX4_with 10 = .ok (.if_icmp .ge 39, 3) := by decide +kernel
theorem dX4_with_13 : decode cX4_with 13 = .ok (.lload 5, 2) := by decide +kernel
theorem dX4_with_15 : decode cX4_with 15 = .ok (.ldc2_w 132, 3) := by decide +kernel
theorem dX4_with_18 : decode cX4_with 18 = .ok (.lmul, 1) := by decide +kernel
theorem dX4_with_19 : decode cX4_with 19 = .ok (.aload_n 3, 1) := by decide +kernel
theorem dX4_with_20 : decode cX4_with 20 = .ok (.iconst 3, 1) := by decide +kernel
theorem dX4_with_21 : decode cX4_with 21 = .ok (.iload 4, 2) := by decide +kernel
theorem dX4_with_23 : decode cX4_with 23 = .ok (.imul, 1) := by decide +kernel
theorem dX4_with_24 : decode cX4_with 24 = .ok (.iload 7, 2) := by decide +kernel
theorem dX4_with_26 : decode cX4_with 26 = .ok (.bipush 8, 2) := by decide +kernel
theorem dX4_with_28 : decode cX4_with 28 = .ok (.idiv, 1) := by decide +kernel
theorem dX4_with_29 : decode cX4_with 29 = .ok (.iadd, 1) := by decide +kernel
theorem dX4_with_30 : decode cX4_with 30 = .ok (.iaload, 1) := by decide +kernel
theorem dX4_with_31 : decode cX4_with 31 = .ok (.iload 7, 2) := by decide +kernel
theorem dX4_with_33 : decode cX4_with 33 = .ok (.bipush 8, 2) := by decide +kernel
theorem dX4_with_35 : decode cX4_with 35 = .ok (.irem, 1) := by decide +kernel
theorem dX4_with_36 : decode cX4_with 36 = .ok (.invokestatic 101, 3) := by decide +kernel
theorem dX4_with_39 : decode cX4_with 39 = .ok (.i2l, 1) := by decide +kernel
theorem dX4_with_40 : decode cX4_with 40 = .ok (.ladd, 1) := by decide +kernel
theorem dX4_with_41 : decode cX4_with 41 = .ok (.lstore 5, 2) := by decide +kernel
theorem dX4_with_43 : decode cX4_with 43 = .ok (.iinc 7 1, 3) := by decide +kernel
theorem dX4_with_46 : decode cX4_with 46 = .ok (.goto (-40), 3) := by decide +kernel
theorem dX4_with_49 : decode cX4_with 49 = .ok (.lload 5, 2) := by decide +kernel
theorem dX4_with_51 : decode cX4_with 51 = .ok (.lreturn, 1) := by decide +kernel
set_option maxRecDepth 20000 in
theorem ggX4_digest_X4_counted : GoodIn wsX4_digest wsX4_counted := goodIn_r _ [16, 4, 17, 18, 6, 8, 9, 19, 20, 21, 22, 23, 15, 24, 25, 26, 27, 28, 10, 7, 11, 29, 30, 31, 32, 33, 34, 35, 36, 37, 38, 39, 54, 55, 56, 57, 58, 59, 60, 61, 62, 63, 64, 65, 66, 67, 68] (by decide +kernel) (by decide +kernel)
set_option maxRecDepth 20000 in
theorem gX4_digest_X4_counted : GoodIn wsX4_digest (wsV RX4 123 RX4 yX4_counted wsX4_counted) := goodIn_app (goodIn_of _ (by decide +kernel)) ggX4_digest_X4_counted
set_option maxRecDepth 20000 in
theorem ggX4_digest_X4_caneTold : GoodIn wsX4_digest wsX4_caneTold := goodIn_r _ [43, 19, 18, 44, 45, 17, 46, 54, 55, 56, 57, 58, 59, 60, 61, 62, 63, 64, 65, 66, 67, 68] (by decide +kernel) (by decide +kernel)
set_option maxRecDepth 20000 in
theorem gX4_digest_X4_caneTold : GoodIn wsX4_digest (wsV RX4 98 RX4 yX4_caneTold wsX4_caneTold) := goodIn_app (goodIn_of _ (by decide +kernel)) ggX4_digest_X4_caneTold
set_option maxRecDepth 20000 in
theorem ggX4_digest_X4_with : GoodIn wsX4_digest wsX4_with := goodIn_r _ [50, 3, 51, 52, 15, 53] (by decide +kernel) (by decide +kernel)
set_option maxRecDepth 20000 in
theorem gX4_digest_X4_with : GoodIn wsX4_digest (wsV RX4 136 RX4 yX4_with wsX4_with) := goodIn_app (goodIn_of _ (by decide +kernel)) ggX4_digest_X4_with
theorem dX4_digest_0 : decode cX4_digest 0 = .ok (.aload_n 0, 1) := by decide +kernel
theorem dX4_digest_1 : decode cX4_digest 1 = .ok (.iconst 0, 1) := by decide +kernel
theorem dX4_digest_2 : decode cX4_digest 2 = .ok (.putfield 41, 3) := by decide +kernel
theorem dX4_digest_5 : decode cX4_digest 5 = .ok (.ldc2_w 134, 3) := by decide +kernel
theorem dX4_digest_8 : decode cX4_digest 8 = .ok (.lstore_n 1, 1) := by decide +kernel
theorem dX4_digest_9 : decode cX4_digest 9 = .ok (.iconst 0, 1) := by decide +kernel
theorem dX4_digest_10 : decode cX4_digest 10 = .ok (.istore_n 3, 1) := by decide +kernel
theorem dX4_digest_11 : decode cX4_digest 11 = .ok (.iload_n 3, 1) := by decide +kernel
theorem dX4_digest_12 : decode cX4_digest 12 = .ok (.bipush 7, 2) := by decide +kernel
theorem dX4_digest_14 : decode cX4_digest 14 = .ok (.if_icmp .gt 22, 3) := by decide +kernel
theorem dX4_digest_17 : decode cX4_digest 17 = .ok (.lload_n 1, 1) := by decide +kernel
theorem dX4_digest_18 : decode cX4_digest 18 = .ok (.ldc2_w 132, 3) := by decide +kernel
theorem dX4_digest_21 : decode cX4_digest 21 = .ok (.lmul, 1) := by decide +kernel
theorem dX4_digest_22 : decode cX4_digest 22 = .ok (.aload_n 0, 1) := by decide +kernel
theorem dX4_digest_23 : decode cX4_digest 23 = .ok (.iload_n 3, 1) := by decide +kernel
theorem dX4_digest_24 : decode cX4_digest 24 = .ok (.invokevirtual 123, 3) := by decide +kernel
theorem dX4_digest_27 : decode cX4_digest 27 = .ok (.i2l, 1) := by decide +kernel
theorem dX4_digest_28 : decode cX4_digest 28 = .ok (.ladd, 1) := by decide +kernel
theorem dX4_digest_29 : decode cX4_digest 29 = .ok (.lstore_n 1, 1) := by decide +kernel
theorem dX4_digest_30 : decode cX4_digest 30 = .ok (.iinc 3 1, 3) := by decide +kernel
theorem dX4_digest_33 : decode cX4_digest 33 = .ok (.goto (-22), 3) := by decide +kernel
theorem dX4_digest_36 : decode cX4_digest 36 = .ok (.iconst 0, 1) := by decide +kernel
theorem dX4_digest_37 : decode cX4_digest 37 = .ok (.istore_n 3, 1) := by decide +kernel
theorem dX4_digest_38 : decode cX4_digest 38 = .ok (.iload_n 3, 1) := by decide +kernel
theorem dX4_digest_39 : decode cX4_digest 39 = .ok (.aload_n 0, 1) := by decide +kernel
theorem dX4_digest_40 : decode cX4_digest 40 = .ok (.getfield 44, 3) := by decide +kernel
theorem dX4_digest_43 : decode cX4_digest 43 = .ok (.if_icmp .ge 50, 3) := by decide +kernel
theorem dX4_digest_46 : decode cX4_digest 46 = .ok (.iconst 0, 1) := by decide +kernel
theorem dX4_digest_47 : decode cX4_digest 47 = .ok (.istore 4, 2) := by decide +kernel
theorem dX4_digest_49 : decode cX4_digest 49 = .ok (.iload 4, 2) := by decide +kernel
theorem dX4_digest_51 : decode cX4_digest 51 = .ok (.iconst 4, 1) := by decide +kernel
theorem dX4_digest_52 : decode cX4_digest 52 = .ok (.if_icmp .gt 24, 3) := by decide +kernel
theorem dX4_digest_55 : decode cX4_digest 55 = .ok (.lload_n 1, 1) := by decide +kernel
theorem dX4_digest_56 : decode cX4_digest 56 = .ok (.ldc2_w 132, 3) := by decide +kernel
theorem dX4_digest_59 : decode cX4_digest 59 = .ok (.lmul, 1) := by decide +kernel
theorem dX4_digest_60 : decode cX4_digest 60 = .ok (.aload_n 0, 1) := by decide +kernel
theorem dX4_digest_61 : decode cX4_digest 61 = .ok (.iload_n 3, 1) := by decide +kernel
theorem dX4_digest_62 : decode cX4_digest 62 = .ok (.iload 4, 2) := by decide +kernel
theorem dX4_digest_64 : decode cX4_digest 64 = .ok (.invokevirtual 98, 3) := by decide +kernel
theorem dX4_digest_67 : decode cX4_digest 67 = .ok (.i2l, 1) := by decide +kernel
theorem dX4_digest_68 : decode cX4_digest 68 = .ok (.ladd, 1) := by decide +kernel
theorem dX4_digest_69 : decode cX4_digest 69 = .ok (.lstore_n 1, 1) := by decide +kernel
theorem dX4_digest_70 : decode cX4_digest 70 = .ok (.iinc 4 1, 3) := by decide +kernel
theorem dX4_digest_73 : decode cX4_digest 73 = .ok (.goto (-24), 3) := by decide +kernel
theorem dX4_digest_76 : decode cX4_digest 76 = .ok (.aload_n 0, 1) := by decide +kernel
theorem dX4_digest_77 : decode cX4_digest 77 = .ok (.lload_n 1, 1) := by decide +kernel
theorem dX4_digest_78 : decode cX4_digest 78 = .ok (.aload_n 0, 1) := by decide +kernel
theorem dX4_digest_79 : decode cX4_digest 79 = .ok (.getfield 26, 3) := by decide +kernel
theorem dX4_digest_82 : decode cX4_digest 82 = .ok (.iload_n 3, 1) := by decide +kernel
theorem dX4_digest_83 : decode cX4_digest 83 = .ok (.invokevirtual 136, 3) := by decide +kernel
theorem dX4_digest_86 : decode cX4_digest 86 = .ok (.lstore_n 1, 1) := by decide +kernel
theorem dX4_digest_87 : decode cX4_digest 87 = .ok (.iinc 3 1, 3) := by decide +kernel
theorem dX4_digest_90 : decode cX4_digest 90 = .ok (.goto (-52), 3) := by decide +kernel
theorem dX4_digest_93 : decode cX4_digest 93 = .ok (.iconst 0, 1) := by decide +kernel
theorem dX4_digest_94 : decode cX4_digest 94 = .ok (.istore_n 3, 1) := by decide +kernel
theorem dX4_digest_95 : decode cX4_digest 95 = .ok (.iload_n 3, 1) := by decide +kernel
theorem dX4_digest_96 : decode cX4_digest 96 = .ok (.aload_n 0, 1) := by decide +kernel
theorem dX4_digest_97 : decode cX4_digest 97 = .ok (.getfield 51, 3) := by decide +kernel
theorem dX4_digest_100 : decode cX4_digest 100 = .ok (.if_icmp .ge 32, 3) := by decide +kernel
theorem dX4_digest_103 : decode cX4_digest 103 = .ok (.aload_n 0, 1) := by decide +kernel
theorem dX4_digest_104 : decode cX4_digest 104 = .ok (.lload_n 1, 1) := by decide +kernel
theorem dX4_digest_105 : decode cX4_digest 105 = .ok (.aload_n 0, 1) := by decide +kernel
theorem dX4_digest_106 : decode cX4_digest 106 = .ok (.getfield 29, 3) := by decide +kernel
theorem dX4_digest_109 : decode cX4_digest 109 = .ok (.iload_n 3, 1) := by decide +kernel
theorem dX4_digest_110 : decode cX4_digest 110 = .ok (.invokevirtual 136, 3) := by decide +kernel
theorem dX4_digest_113 : decode cX4_digest 113 = .ok (.ldc2_w 132, 3) := by decide +kernel
theorem dX4_digest_116 : decode cX4_digest 116 = .ok (.lmul, 1) := by decide +kernel
theorem dX4_digest_117 : decode cX4_digest 117 = .ok (.aload_n 0, 1) := by decide +kernel
theorem dX4_digest_118 : decode cX4_digest 118 = .ok (.getfield 32, 3) := by decide +kernel
theorem dX4_digest_121 : decode cX4_digest 121 = .ok (.iload_n 3, 1) := by decide +kernel
theorem dX4_digest_122 : decode cX4_digest 122 = .ok (.iaload, 1) := by decide +kernel
theorem dX4_digest_123 : decode cX4_digest 123 = .ok (.i2l, 1) := by decide +kernel
theorem dX4_digest_124 : decode cX4_digest 124 = .ok (.ladd, 1) := by decide +kernel
theorem dX4_digest_125 : decode cX4_digest 125 = .ok (.lstore_n 1, 1) := by decide +kernel
theorem dX4_digest_126 : decode cX4_digest 126 = .ok (.iinc 3 1, 3) := by decide +kernel
theorem dX4_digest_129 : decode cX4_digest 129 = .ok (.goto (-34), 3) := by decide +kernel
theorem dX4_digest_132 : decode cX4_digest 132 = .ok (.iconst 0, 1) := by decide +kernel
theorem dX4_digest_133 : decode cX4_digest 133 = .ok (.istore_n 3, 1) := by decide +kernel
theorem dX4_digest_134 : decode cX4_digest 134 = .ok (.iload_n 3, 1) := by decide +kernel
theorem dX4_digest_135 : decode cX4_digest 135 = .ok (.iconst 4, 1) := by decide +kernel
theorem dX4_digest_136 : decode cX4_digest 136 = .ok (.aload_n 0, 1) := by decide +kernel
theorem dX4_digest_137 : decode cX4_digest 137 = .ok (.getfield 54, 3) := by decide +kernel
theorem dX4_digest_140 : decode cX4_digest 140 = .ok (.imul, 1) := by decide +kernel
theorem dX4_digest_141 : decode cX4_digest 141 = .ok (.if_icmp .ge 35, 3) := by decide +kernel
theorem dX4_digest_144 : decode cX4_digest 144 = .ok (.lload_n 1, 1) := by decide +kernel
theorem dX4_digest_145 : decode cX4_digest 145 = .ok (.ldc2_w 132, 3) := by decide +kernel
theorem dX4_digest_148 : decode cX4_digest 148 = .ok (.lmul, 1) := by decide +kernel
theorem dX4_digest_149 : decode cX4_digest 149 = .ok (.aload_n 0, 1) := by decide +kernel
theorem dX4_digest_150 : decode cX4_digest 150 = .ok (.getfield 35, 3) := by decide +kernel
theorem dX4_digest_153 : decode cX4_digest 153 = .ok (.iload_n 3, 1) := by decide +kernel
theorem dX4_digest_154 : decode cX4_digest 154 = .ok (.iaload, 1) := by decide +kernel
theorem dX4_digest_155 : decode cX4_digest 155 = .ok (.i2l, 1) := by decide +kernel
theorem dX4_digest_156 : decode cX4_digest 156 = .ok (.ladd, 1) := by decide +kernel
theorem dX4_digest_157 : decode cX4_digest 157 = .ok (.ldc2_w 132, 3) := by decide +kernel
theorem dX4_digest_160 : decode cX4_digest 160 = .ok (.lmul, 1) := by decide +kernel
theorem dX4_digest_161 : decode cX4_digest 161 = .ok (.aload_n 0, 1) := by decide +kernel
theorem dX4_digest_162 : decode cX4_digest 162 = .ok (.getfield 38, 3) := by decide +kernel
theorem dX4_digest_165 : decode cX4_digest 165 = .ok (.iload_n 3, 1) := by decide +kernel
theorem dX4_digest_166 : decode cX4_digest 166 = .ok (.iaload, 1) := by decide +kernel
theorem dX4_digest_167 : decode cX4_digest 167 = .ok (.i2l, 1) := by decide +kernel
theorem dX4_digest_168 : decode cX4_digest 168 = .ok (.ladd, 1) := by decide +kernel
theorem dX4_digest_169 : decode cX4_digest 169 = .ok (.lstore_n 1, 1) := by decide +kernel
theorem dX4_digest_170 : decode cX4_digest 170 = .ok (.iinc 3 1, 3) := by decide +kernel
theorem dX4_digest_173 : decode cX4_digest 173 = .ok (.goto (-39), 3) := by decide +kernel
theorem dX4_digest_176 : decode cX4_digest 176 = .ok (.lload_n 1, 1) := by decide +kernel
theorem dX4_digest_177 : decode cX4_digest 177 = .ok (.lreturn, 1) := by decide +kernel
set_option maxRecDepth 20000 in
theorem ggL_begin_X3_begin : GoodIn wsL_begin wsX3_begin := goodIn_ca (goodIn_r _ [6, 7, 8, 9, 10, 11, 12, 13, 14, 15, 16, 17, 18, 19, 20, 21, 22, 23, 24, 25, 26, 27, 28, 29, 30, 31, 32, 33, 34, 35, 36, 37, 38, 39, 40, 41, 42, 43, 44, 45] (by decide +kernel) (by decide +kernel)) (goodIn_sub (fun _ h => List.mem_cons_of_mem _ (List.mem_append_right _ h)) (by decide +kernel))
