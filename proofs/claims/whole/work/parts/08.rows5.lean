set_option maxRecDepth 20000 in
theorem gL_begin_X3_begin : GoodIn wsL_begin (wsV RL 7 RX3 yX3_begin wsX3_begin) := goodIn_app (goodIn_of _ (by decide +kernel)) ggL_begin_X3_begin
theorem dL_begin_0 : decode cL_begin 0 = .ok (.aload_n 1, 1) := by decide +kernel
theorem dL_begin_1 : decode cL_begin 1 = .ok (.iconst 0, 1) := by decide +kernel
theorem dL_begin_2 : decode cL_begin 2 = .ok (.aload_n 0, 1) := by decide +kernel
theorem dL_begin_3 : decode cL_begin 3 = .ok (.invokevirtual 7, 3) := by decide +kernel
theorem dL_begin_6 : decode cL_begin 6 = .ok (.i2l, 1) := by decide +kernel
theorem dL_begin_7 : decode cL_begin 7 = .ok (.lastore, 1) := by decide +kernel
theorem dL_begin_8 : decode cL_begin 8 = .ok (.goto 6, 3) := by decide +kernel
theorem dL_begin_11 : decode cL_begin 11 = .ok (.astore_n 2, 1) := by decide +kernel
theorem dL_begin_12 : decode cL_begin 12 = .ok (.iconst 1, 1) := by decide +kernel
theorem dL_begin_13 : decode cL_begin 13 = .ok (.ireturn, 1) := by decide +kernel
theorem dL_begin_14 : decode cL_begin 14 = .ok (.iconst 0, 1) := by decide +kernel
theorem dL_begin_15 : decode cL_begin 15 = .ok (.ireturn, 1) := by decide +kernel
set_option maxRecDepth 20000 in
theorem ggL_lay_X3_lay : GoodIn wsL_lay wsX3_lay := goodIn_ca (goodIn_ca (goodIn_ca (goodIn_r _ [8, 9, 10, 11, 12, 13, 14, 15, 16, 17, 7, 18, 19, 20, 21, 22, 23, 24, 25, 26, 27, 28, 29, 30, 31, 32, 33, 34, 35, 36, 37, 38, 39, 40, 41, 42, 43, 44, 45, 46, 47, 48, 49, 50, 51, 52, 53, 54, 55, 56, 57, 58, 59, 60, 61, 62, 63, 64, 65, 66, 67, 68, 69, 70, 71, 72, 73, 74, 75, 76] (by decide +kernel) (by decide +kernel)) (goodIn_sub (fun _ h => List.mem_cons_of_mem _ (List.mem_append_left _ (List.mem_append_left _ (List.mem_append_right _ h)))) (by decide +kernel))) (goodIn_sub (fun _ h => List.mem_cons_of_mem _ (List.mem_append_left _ (List.mem_append_right _ h))) (by decide +kernel))) (goodIn_sub (fun _ h => List.mem_cons_of_mem _ (List.mem_append_right _ h)) (by decide +kernel))
set_option maxRecDepth 20000 in
theorem gL_lay_X3_lay : GoodIn wsL_lay (wsV RL 15 RX3 yX3_lay wsX3_lay) := goodIn_app (goodIn_of _ (by decide +kernel)) ggL_lay_X3_lay
theorem dL_lay_0 : decode cL_lay 0 = .ok (.aload 6, 2) := by decide +kernel
theorem dL_lay_2 : decode cL_lay 2 = .ok (.iconst 0, 1) := by decide +kernel
theorem dL_lay_3 : decode cL_lay 3 = .ok (.aload_n 0, 1) := by decide +kernel
theorem dL_lay_4 : decode cL_lay 4 = .ok (.iload_n 1, 1) := by decide +kernel
theorem dL_lay_5 : decode cL_lay 5 = .ok (.iload_n 2, 1) := by decide +kernel
theorem dL_lay_6 : decode cL_lay 6 = .ok (.iload_n 3, 1) := by decide +kernel
theorem dL_lay_7 : decode cL_lay 7 = .ok (.iload 4, 2) := by decide +kernel
theorem dL_lay_9 : decode cL_lay 9 = .ok (.iload 5, 2) := by decide +kernel
theorem dL_lay_11 : decode cL_lay 11 = .ok (.invokevirtual 15, 3) := by decide +kernel
theorem dL_lay_14 : decode cL_lay 14 = .ok (.ifCond .eq 7, 3) := by decide +kernel
theorem dL_lay_17 : decode cL_lay 17 = .ok (.lconst 1, 1) := by decide +kernel
theorem dL_lay_18 : decode cL_lay 18 = .ok (.goto 4, 3) := by decide +kernel
theorem dL_lay_21 : decode cL_lay 21 = .ok (.lconst 0, 1) := by decide +kernel
theorem dL_lay_22 : decode cL_lay 22 = .ok (.lastore, 1) := by decide +kernel
theorem dL_lay_23 : decode cL_lay 23 = .ok (.goto 15, 3) := by decide +kernel
theorem dL_lay_26 : decode cL_lay 26 = .ok (.astore 7, 2) := by decide +kernel
theorem dL_lay_28 : decode cL_lay 28 = .ok (.iconst 1, 1) := by decide +kernel
theorem dL_lay_29 : decode cL_lay 29 = .ok (.ireturn, 1) := by decide +kernel
theorem dL_lay_30 : decode cL_lay 30 = .ok (.astore 7, 2) := by decide +kernel
theorem dL_lay_32 : decode cL_lay 32 = .ok (.iconst 2, 1) := by decide +kernel
theorem dL_lay_33 : decode cL_lay 33 = .ok (.ireturn, 1) := by decide +kernel
theorem dL_lay_34 : decode cL_lay 34 = .ok (.astore 7, 2) := by decide +kernel
theorem dL_lay_36 : decode cL_lay 36 = .ok (.iconst 3, 1) := by decide +kernel
theorem dL_lay_37 : decode cL_lay 37 = .ok (.ireturn, 1) := by decide +kernel
theorem dL_lay_38 : decode cL_lay 38 = .ok (.iconst 0, 1) := by decide +kernel
theorem dL_lay_39 : decode cL_lay 39 = .ok (.ireturn, 1) := by decide +kernel
set_option maxRecDepth 20000 in
theorem ggL_twist_X3_twist : GoodIn wsL_twist wsX3_twist := goodIn_ca (goodIn_ca (goodIn_ca (goodIn_r _ [8, 9, 10, 11, 12, 13, 14, 15, 16, 17, 7, 18, 19, 20, 21, 22, 23, 24, 25, 26, 27, 28, 29, 30, 31, 32, 33, 34, 35, 36, 37, 38, 39, 40, 41, 42, 43, 44, 45, 46, 47, 48, 49, 50, 51, 52, 53, 54, 55, 56, 57, 58, 59] (by decide +kernel) (by decide +kernel)) (goodIn_sub (fun _ h => List.mem_cons_of_mem _ (List.mem_append_left _ (List.mem_append_left _ (List.mem_append_right _ h)))) (by decide +kernel))) (goodIn_sub (fun _ h => List.mem_cons_of_mem _ (List.mem_append_left _ (List.mem_append_right _ h))) (by decide +kernel))) (goodIn_sub (fun _ h => List.mem_cons_of_mem _ (List.mem_append_right _ h)) (by decide +kernel))
set_option maxRecDepth 20000 in
theorem gL_twist_X3_twist : GoodIn wsL_twist (wsV RL 23 RX3 yX3_twist wsX3_twist) := goodIn_app (goodIn_of _ (by decide +kernel)) ggL_twist_X3_twist
theorem dL_twist_0 : decode cL_twist 0 = .ok (.aload_n 3, 1) := by decide +kernel
theorem dL_twist_1 : decode cL_twist 1 = .ok (.iconst 0, 1) := by decide +kernel
theorem dL_twist_2 : decode cL_twist 2 = .ok (.aload_n 0, 1) := by decide +kernel
theorem dL_twist_3 : decode cL_twist 3 = .ok (.iload_n 1, 1) := by decide +kernel
theorem dL_twist_4 : decode cL_twist 4 = .ok (.iload_n 2, 1) := by decide +kernel
theorem dL_twist_5 : decode cL_twist 5 = .ok (.invokevirtual 23, 3) := by decide +kernel
theorem dL_twist_8 : decode cL_twist 8 = .ok (.ifCond .eq 7, 3) := by decide +kernel
theorem dL_twist_11 : decode cL_twist 11 = .ok (.lconst 1, 1) := by decide +kernel
theorem dL_twist_12 : decode cL_twist 12 = .ok (.goto 4, 3) := by decide +kernel
theorem dL_twist_15 : decode cL_twist 15 = .ok (.lconst 0, 1) := by decide +kernel
theorem dL_twist_16 : decode cL_twist 16 = .ok (.lastore, 1) := by decide +kernel
theorem dL_twist_17 : decode cL_twist 17 = .ok (.goto 15, 3) := by decide +kernel
theorem dL_twist_20 : decode cL_twist 20 = .ok (.astore 4, 2) := by decide +kernel
theorem dL_twist_22 : decode cL_twist 22 = .ok (.iconst 1, 1) := by decide +kernel
theorem dL_twist_23 : decode cL_twist 23 = .ok (.ireturn, 1) := by decide +kernel
theorem dL_twist_24 : decode cL_twist 24 = .ok (.astore 4, 2) := by decide +kernel
theorem dL_twist_26 : decode cL_twist 26 = .ok (.iconst 2, 1) := by decide +kernel
theorem dL_twist_27 : decode cL_twist 27 = .ok (.ireturn, 1) := by decide +kernel
theorem dL_twist_28 : decode cL_twist 28 = .ok (.astore 4, 2) := by decide +kernel
theorem dL_twist_30 : decode cL_twist 30 = .ok (.iconst 3, 1) := by decide +kernel
theorem dL_twist_31 : decode cL_twist 31 = .ok (.ireturn, 1) := by decide +kernel
theorem dL_twist_32 : decode cL_twist 32 = .ok (.iconst 0, 1) := by decide +kernel
theorem dL_twist_33 : decode cL_twist 33 = .ok (.ireturn, 1) := by decide +kernel
set_option maxRecDepth 20000 in
theorem ggL_pull_X3_pull : GoodIn wsL_pull wsX3_pull := goodIn_ca (goodIn_ca (goodIn_r _ [7, 8, 9, 10, 11, 12, 13, 14, 6, 15, 16, 17, 18, 19, 20, 21, 22, 23, 24, 25, 26, 27, 28, 29, 30, 31, 32, 33, 34, 35, 36, 37, 38, 39, 40, 41, 42, 43, 44, 45, 46, 47, 48, 49, 50, 51, 52, 53, 54, 55, 56, 57, 58, 59] (by decide +kernel) (by decide +kernel)) (goodIn_sub (fun _ h => List.mem_cons_of_mem _ (List.mem_append_left _ (List.mem_append_right _ h))) (by decide +kernel))) (goodIn_sub (fun _ h => List.mem_cons_of_mem _ (List.mem_append_right _ h)) (by decide +kernel))
set_option maxRecDepth 20000 in
theorem gL_pull_X3_pull : GoodIn wsL_pull (wsV RL 27 RX3 yX3_pull wsX3_pull) := goodIn_app (goodIn_of _ (by decide +kernel)) ggL_pull_X3_pull
theorem dL_pull_0 : decode cL_pull 0 = .ok (.aload_n 2, 1) := by decide +kernel
theorem dL_pull_1 : decode cL_pull 1 = .ok (.iconst 0, 1) := by decide +kernel
theorem dL_pull_2 : decode cL_pull 2 = .ok (.aload_n 0, 1) := by decide +kernel
theorem dL_pull_3 : decode cL_pull 3 = .ok (.iload_n 1, 1) := by decide +kernel
theorem dL_pull_4 : decode cL_pull 4 = .ok (.invokevirtual 27, 3) := by decide +kernel
theorem dL_pull_7 : decode cL_pull 7 = .ok (.ifCond .eq 7, 3) := by decide +kernel
theorem dL_pull_10 : decode cL_pull 10 = .ok (.lconst 1, 1) := by decide +kernel
theorem dL_pull_11 : decode cL_pull 11 = .ok (.goto 4, 3) := by decide +kernel
theorem dL_pull_14 : decode cL_pull 14 = .ok (.lconst 0, 1) := by decide +kernel
theorem dL_pull_15 : decode cL_pull 15 = .ok (.lastore, 1) := by decide +kernel
theorem dL_pull_16 : decode cL_pull 16 = .ok (.goto 9, 3) := by decide +kernel
theorem dL_pull_19 : decode cL_pull 19 = .ok (.astore_n 3, 1) := by decide +kernel
theorem dL_pull_20 : decode cL_pull 20 = .ok (.iconst 1, 1) := by decide +kernel
theorem dL_pull_21 : decode cL_pull 21 = .ok (.ireturn, 1) := by decide +kernel
theorem dL_pull_22 : decode cL_pull 22 = .ok (.astore_n 3, 1) := by decide +kernel
theorem dL_pull_23 : decode cL_pull 23 = .ok (.iconst 2, 1) := by decide +kernel
theorem dL_pull_24 : decode cL_pull 24 = .ok (.ireturn, 1) := by decide +kernel
theorem dL_pull_25 : decode cL_pull 25 = .ok (.iconst 0, 1) := by decide +kernel
theorem dL_pull_26 : decode cL_pull 26 = .ok (.ireturn, 1) := by decide +kernel
set_option maxRecDepth 20000 in
theorem ggL_furnace_X3_furnace : GoodIn wsL_furnace wsX3_furnace := goodIn_ca (goodIn_r _ [6, 7, 8, 9, 10, 11, 12, 5, 13, 14, 15, 16, 17, 18, 19, 20, 21, 22] (by decide +kernel) (by decide +kernel)) (goodIn_sub (fun _ h => List.mem_cons_of_mem _ (List.mem_append_right _ h)) (by decide +kernel))
set_option maxRecDepth 20000 in
theorem gL_furnace_X3_furnace : GoodIn wsL_furnace (wsV RL 31 RX3 yX3_furnace wsX3_furnace) := goodIn_app (goodIn_of _ (by decide +kernel)) ggL_furnace_X3_furnace
theorem dL_furnace_0 : decode cL_furnace 0 = .ok (.aload_n 2, 1) := by decide +kernel
theorem dL_furnace_1 : decode cL_furnace 1 = .ok (.iconst 0, 1) := by decide +kernel
theorem dL_furnace_2 : decode cL_furnace 2 = .ok (.aload_n 0, 1) := by decide +kernel
theorem dL_furnace_3 : decode cL_furnace 3 = .ok (.iload_n 1, 1) := by decide +kernel
theorem dL_furnace_4 : decode cL_furnace 4 = .ok (.invokevirtual 31, 3) := by decide +kernel
theorem dL_furnace_7 : decode cL_furnace 7 = .ok (.i2l, 1) := by decide +kernel
theorem dL_furnace_8 : decode cL_furnace 8 = .ok (.lastore, 1) := by decide +kernel
theorem dL_furnace_9 : decode cL_furnace 9 = .ok (.goto 6, 3) := by decide +kernel
theorem dL_furnace_12 : decode cL_furnace 12 = .ok (.astore_n 3, 1) := by decide +kernel
theorem dL_furnace_13 : decode cL_furnace 13 = .ok (.iconst 1, 1) := by decide +kernel
theorem dL_furnace_14 : decode cL_furnace 14 = .ok (.ireturn, 1) := by decide +kernel
theorem dL_furnace_15 : decode cL_furnace 15 = .ok (.iconst 0, 1) := by decide +kernel
theorem dL_furnace_16 : decode cL_furnace 16 = .ok (.ireturn, 1) := by decide +kernel
set_option maxRecDepth 20000 in
theorem ggL_rest_X3_rest : GoodIn wsL_rest wsX3_rest := goodIn_ca (goodIn_r _ [6, 7, 8, 9, 10, 11, 5, 12, 13, 14, 15, 16, 17, 18, 19, 20, 21, 22, 23, 24, 25, 26, 27, 28, 29, 30, 31, 32, 33, 34, 35, 36, 37, 38, 39, 40, 41, 42, 43, 44, 45] (by decide +kernel) (by decide +kernel)) (goodIn_sub (fun _ h => List.mem_cons_of_mem _ (List.mem_append_right _ h)) (by decide +kernel))
set_option maxRecDepth 20000 in
theorem gL_rest_X3_rest : GoodIn wsL_rest (wsV RL 35 RX3 yX3_rest wsX3_rest) := goodIn_app (goodIn_of _ (by decide +kernel)) ggL_rest_X3_rest
theorem dL_rest_0 : decode cL_rest 0 = .ok (.aload_n 2, 1) := by decide +kernel
theorem dL_rest_1 : decode cL_rest 1 = .ok (.iconst 0, 1) := by decide +kernel
theorem dL_rest_2 : decode cL_rest 2 = .ok (.aload_n 0, 1) := by decide +kernel
theorem dL_rest_3 : decode cL_rest 3 = .ok (.iload_n 1, 1) := by decide +kernel
theorem dL_rest_4 : decode cL_rest 4 = .ok (.invokevirtual 35, 3) := by decide +kernel
theorem dL_rest_7 : decode cL_rest 7 = .ok (.i2l, 1) := by decide +kernel
theorem dL_rest_8 : decode cL_rest 8 = .ok (.lastore, 1) := by decide +kernel
theorem dL_rest_9 : decode cL_rest 9 = .ok (.goto 6, 3) := by decide +kernel
theorem dL_rest_12 : decode cL_rest 12 = .ok (.astore_n 3, 1) := by decide +kernel
theorem dL_rest_13 : decode cL_rest 13 = .ok (.iconst 1, 1) := by decide +kernel
theorem dL_rest_14 : decode cL_rest 14 = .ok (.ireturn, 1) := by decide +kernel
theorem dL_rest_15 : decode cL_rest 15 = .ok (.iconst 0, 1) := by decide +kernel
theorem dL_rest_16 : decode cL_rest 16 = .ok (.ireturn, 1) := by decide +kernel
set_option maxRecDepth 20000 in
theorem ggL_cut_X3_cut : GoodIn wsL_cut wsX3_cut := goodIn_ca (goodIn_ca (goodIn_r _ [7, 8, 9, 10, 11, 12, 13, 14, 15, 16, 17, 18, 19, 6, 20, 21, 22, 23, 24, 25, 26, 27, 28, 29, 30, 31, 32, 33, 34, 35, 36, 37, 38, 39, 40, 41, 42, 43, 44, 45, 46, 47, 48, 49, 50, 51, 52, 53, 54, 55, 56, 57, 58, 59, 60, 61, 62, 63, 64, 65, 66, 67, 68, 69, 70, 71, 72, 73, 74, 75, 76, 77, 78, 79, 80, 81, 82, 83, 84, 85, 86, 87, 88, 89, 90, 91, 92] (by decide +kernel) (by decide +kernel)) (goodIn_sub (fun _ h => List.mem_cons_of_mem _ (List.mem_append_left _ (List.mem_append_right _ h))) (by decide +kernel))) (goodIn_sub (fun _ h => List.mem_cons_of_mem _ (List.mem_append_right _ h)) (by decide +kernel))
set_option maxRecDepth 20000 in
theorem gL_cut_X3_cut : GoodIn wsL_cut (wsV RL 38 RX3 yX3_cut wsX3_cut) := goodIn_app (goodIn_of _ (by decide +kernel)) ggL_cut_X3_cut
theorem dL_cut_0 : decode cL_cut 0 = .ok (.aload_n 2, 1) := by decide +kernel
theorem dL_cut_1 : decode cL_cut 1 = .ok (.iconst 0, 1) := by decide +kernel
theorem dL_cut_2 : decode cL_cut 2 = .ok (.aload_n 0, 1) := by decide +kernel
theorem dL_cut_3 : decode cL_cut 3 = .ok (.iload_n 1, 1) := by decide +kernel
theorem dL_cut_4 : decode cL_cut 4 = .ok (.invokevirtual 38, 3) := by decide +kernel
theorem dL_cut_7 : decode cL_cut 7 = .ok (.i2l, 1) := by decide +kernel
theorem dL_cut_8 : decode cL_cut 8 = .ok (.lastore, 1) := by decide +kernel
theorem dL_cut_9 : decode cL_cut 9 = .ok (.goto 9, 3) := by decide +kernel
theorem dL_cut_12 : decode cL_cut 12 = .ok (.astore_n 3, 1) := by decide +kernel
theorem dL_cut_13 : decode cL_cut 13 = .ok (.iconst 1, 1) := by decide +kernel
theorem dL_cut_14 : decode cL_cut 14 = .ok (.ireturn, 1) := by decide +kernel
theorem dL_cut_15 : decode cL_cut 15 = .ok (.astore_n 3, 1) := by decide +kernel
theorem dL_cut_16 : decode cL_cut 16 = .ok (.iconst 2, 1) := by decide +kernel
theorem dL_cut_17 : decode cL_cut 17 = .ok (.ireturn, 1) := by decide +kernel
theorem dL_cut_18 : decode cL_cut 18 = .ok (.iconst 0, 1) := by decide +kernel
theorem dL_cut_19 : decode cL_cut 19 = .ok (.ireturn, 1) := by decide +kernel
set_option maxRecDepth 20000 in
theorem ggL_cane_X3_cane : GoodIn wsL_cane wsX3_cane := goodIn_ca (goodIn_r _ [6, 7, 8, 9, 10, 11, 12, 5, 13, 14, 15, 16, 17, 18, 19, 20, 21, 22, 23, 24, 25, 26, 27, 28, 29, 30, 31, 32, 33, 34, 35, 36] (by decide +kernel) (by decide +kernel)) (goodIn_sub (fun _ h => List.mem_cons_of_mem _ (List.mem_append_right _ h)) (by decide +kernel))
set_option maxRecDepth 20000 in
theorem gL_cane_X3_cane : GoodIn wsL_cane (wsV RL 41 RX3 yX3_cane wsX3_cane) := goodIn_app (goodIn_of _ (by decide +kernel)) ggL_cane_X3_cane
theorem dL_cane_0 : decode cL_cane 0 = .ok (.aload_n 3, 1) := by decide +kernel
theorem dL_cane_1 : decode cL_cane 1 = .ok (.iconst 0, 1) := by decide +kernel
theorem dL_cane_2 : decode cL_cane 2 = .ok (.aload_n 0, 1) := by decide +kernel
theorem dL_cane_3 : decode cL_cane 3 = .ok (.iload_n 1, 1) := by decide +kernel
theorem dL_cane_4 : decode cL_cane 4 = .ok (.iload_n 2, 1) := by decide +kernel
theorem dL_cane_5 : decode cL_cane 5 = .ok (.invokevirtual 41, 3) := by decide +kernel
theorem dL_cane_8 : decode cL_cane 8 = .ok (.i2l, 1) := by decide +kernel
theorem dL_cane_9 : decode cL_cane 9 = .ok (.lastore, 1) := by decide +kernel
theorem dL_cane_10 : decode cL_cane 10 = .ok (.goto 7, 3) := by decide +kernel
theorem dL_cane_13 : decode cL_cane 13 = .ok (.astore 4, 2) := by decide +kernel
theorem dL_cane_15 : decode cL_cane 15 = .ok (.iconst 1, 1) := by decide +kernel
theorem dL_cane_16 : decode cL_cane 16 = .ok (.ireturn, 1) := by decide +kernel
theorem dL_cane_17 : decode cL_cane 17 = .ok (.iconst 0, 1) := by decide +kernel
theorem dL_cane_18 : decode cL_cane 18 = .ok (.ireturn, 1) := by decide +kernel
set_option maxRecDepth 20000 in
theorem ggL_shows_X3_shows : GoodIn wsL_shows wsX3_shows := goodIn_ca (goodIn_r _ [6, 7, 8, 9, 10, 11, 5, 12, 13, 14, 15, 16, 17, 18, 19, 20, 21, 22, 23, 24, 25, 26, 27, 28, 29, 30, 31, 32, 33, 34, 35, 36, 37, 38, 39, 40, 41, 42, 43, 44, 45, 46, 47, 48, 49, 50, 51, 52, 53, 54, 55, 56, 57] (by decide +kernel) (by decide +kernel)) (goodIn_sub (fun _ h => List.mem_cons_of_mem _ (List.mem_append_right _ h)) (by decide +kernel))
set_option maxRecDepth 20000 in
theorem gL_shows_X3_shows : GoodIn wsL_shows (wsV RL 45 RX3 yX3_shows wsX3_shows) := goodIn_app (goodIn_of _ (by decide +kernel)) ggL_shows_X3_shows
theorem dL_shows_0 : decode cL_shows 0 = .ok (.aload 5, 2) := by decide +kernel
theorem dL_shows_2 : decode cL_shows 2 = .ok (.iconst 0, 1) := by decide +kernel
theorem dL_shows_3 : decode cL_shows 3 = .ok (.aload_n 0, 1) := by decide +kernel
theorem dL_shows_4 : decode cL_shows 4 = .ok (.iload_n 1, 1) := by decide +kernel
theorem dL_shows_5 : decode cL_shows 5 = .ok (.iload_n 2, 1) := by decide +kernel
theorem dL_shows_6 : decode cL_shows 6 = .ok (.iload_n 3, 1) := by decide +kernel
theorem dL_shows_7 : decode cL_shows 7 = .ok (.iload 4, 2) := by decide +kernel
theorem dL_shows_9 : decode cL_shows 9 = .ok (.invokevirtual 45, 3) := by decide +kernel
theorem dL_shows_12 : decode cL_shows 12 = .ok (.i2l, 1) := by decide +kernel
theorem dL_shows_13 : decode cL_shows 13 = .ok (.lastore, 1) := by decide +kernel
theorem dL_shows_14 : decode cL_shows 14 = .ok (.goto 7, 3) := by decide +kernel
theorem dL_shows_17 : decode cL_shows 17 = .ok (.astore 6, 2) := by decide +kernel
theorem dL_shows_19 : decode cL_shows 19 = .ok (.iconst 1, 1) := by decide +kernel
theorem dL_shows_20 : decode cL_shows 20 = .ok (.ireturn, 1) := by decide +kernel
theorem dL_shows_21 : decode cL_shows 21 = .ok (.iconst 0, 1) := by decide +kernel
theorem dL_shows_22 : decode cL_shows 22 = .ok (.ireturn, 1) := by decide +kernel
set_option maxRecDepth 20000 in
theorem ggL_colour_X3_colour : GoodIn wsL_colour wsX3_colour := goodIn_ca (goodIn_r _ [6, 7, 8, 9, 10, 11, 5, 12, 13, 14, 15, 16, 17, 18, 19, 20, 21, 22, 23, 24, 25, 26, 27, 28, 29, 30, 31, 32, 33, 34, 35, 36, 37, 38, 39, 40, 41, 42, 43, 44, 45, 46] (by decide +kernel) (by decide +kernel)) (goodIn_sub (fun _ h => List.mem_cons_of_mem _ (List.mem_append_right _ h)) (by decide +kernel))
set_option maxRecDepth 20000 in
theorem gL_colour_X3_colour : GoodIn wsL_colour (wsV RL 49 RX3 yX3_colour wsX3_colour) := goodIn_app (goodIn_of _ (by decide +kernel)) ggL_colour_X3_colour
theorem dL_colour_0 : decode cL_colour 0 = .ok (.aload 4, 2) := by decide +kernel
theorem dL_colour_2 : decode cL_colour 2 = .ok (.iconst 0, 1) := by decide +kernel
theorem dL_colour_3 : decode cL_colour 3 = .ok (.aload_n 0, 1) := by decide +kernel
theorem dL_colour_4 : decode cL_colour 4 = .ok (.iload_n 1, 1) := by decide +kernel
theorem dL_colour_5 : decode cL_colour 5 = .ok (.iload_n 2, 1) := by decide +kernel
theorem dL_colour_6 : decode cL_colour 6 = .ok (.iload_n 3, 1) := by decide +kernel
theorem dL_colour_7 : decode cL_colour 7 = .ok (.invokevirtual 49, 3) := by decide +kernel
theorem dL_colour_10 : decode cL_colour 10 = .ok (.i2l, 1) := by decide +kernel
theorem dL_colour_11 : decode cL_colour 11 = .ok (.lastore, 1) := by decide +kernel
theorem dL_colour_12 : decode cL_colour 12 = .ok (.goto 7, 3) := by decide +kernel
theorem dL_colour_15 : decode cL_colour 15 = .ok (.astore 5, 2) := by decide +kernel
theorem dL_colour_17 : decode cL_colour 17 = .ok (.iconst 1, 1) := by decide +kernel
theorem dL_colour_18 : decode cL_colour 18 = .ok (.ireturn, 1) := by decide +kernel
theorem dL_colour_19 : decode cL_colour 19 = .ok (.iconst 0, 1) := by decide +kernel
theorem dL_colour_20 : decode cL_colour 20 = .ok (.ireturn, 1) := by decide +kernel
set_option maxRecDepth 20000 in
theorem ggL_where_X3_where : GoodIn wsL_where wsX3_where := goodIn_ca (goodIn_r _ [6, 7, 8, 9, 10, 11, 5, 12, 13, 14, 15, 16, 17, 18, 19, 20, 21, 22, 23, 24, 25, 26] (by decide +kernel) (by decide +kernel)) (goodIn_sub (fun _ h => List.mem_cons_of_mem _ (List.mem_append_right _ h)) (by decide +kernel))
set_option maxRecDepth 20000 in
theorem gL_where_X3_where : GoodIn wsL_where (wsV RL 53 RX3 yX3_where wsX3_where) := goodIn_app (goodIn_of _ (by decide +kernel)) ggL_where_X3_where
theorem dL_where_0 : decode cL_where 0 = .ok (.aload_n 2, 1) := by decide +kernel
theorem dL_where_1 : decode cL_where 1 = .ok (.iconst 0, 1) := by decide +kernel
theorem dL_where_2 : decode cL_where 2 = .ok (.aload_n 0, 1) := by decide +kernel
theorem dL_where_3 : decode cL_where 3 = .ok (.iload_n 1, 1) := by decide +kernel
theorem dL_where_4 : decode cL_where 4 = .ok (.invokevirtual 53, 3) := by decide +kernel
theorem dL_where_7 : decode cL_where 7 = .ok (.i2l, 1) := by decide +kernel
theorem dL_where_8 : decode cL_where 8 = .ok (.lastore, 1) := by decide +kernel
theorem dL_where_9 : decode cL_where 9 = .ok (.goto 6, 3) := by decide +kernel
theorem dL_where_12 : decode cL_where 12 = .ok (.astore_n 3, 1) := by decide +kernel
theorem dL_where_13 : decode cL_where 13 = .ok (.iconst 1, 1) := by decide +kernel
theorem dL_where_14 : decode cL_where 14 = .ok (.ireturn, 1) := by decide +kernel
theorem dL_where_15 : decode cL_where 15 = .ok (.iconst 0, 1) := by decide +kernel
theorem dL_where_16 : decode cL_where 16 = .ok (.ireturn, 1) := by decide +kernel
set_option maxRecDepth 20000 in
theorem ggL_bead_X3_bead : GoodIn wsL_bead wsX3_bead := goodIn_ca (goodIn_r _ [6, 7, 8, 9, 10, 11, 12, 13, 14, 15, 16, 17] (by decide +kernel) (by decide +kernel)) (goodIn_sub (fun _ h => List.mem_cons_of_mem _ (List.mem_append_right _ h)) (by decide +kernel))
set_option maxRecDepth 20000 in
theorem gL_bead_X3_bead : GoodIn wsL_bead (wsV RL 56 RX3 yX3_bead wsX3_bead) := goodIn_app (goodIn_of _ (by decide +kernel)) ggL_bead_X3_bead
theorem dL_bead_0 : decode cL_bead 0 = .ok (.aload_n 1, 1) := by decide +kernel
theorem dL_bead_1 : decode cL_bead 1 = .ok (.iconst 0, 1) := by decide +kernel
theorem dL_bead_2 : decode cL_bead 2 = .ok (.aload_n 0, 1) := by decide +kernel
theorem dL_bead_3 : decode cL_bead 3 = .ok (.invokevirtual 56, 3) := by decide +kernel
theorem dL_bead_6 : decode cL_bead 6 = .ok (.i2l, 1) := by decide +kernel
theorem dL_bead_7 : decode cL_bead 7 = .ok (.lastore, 1) := by decide +kernel
theorem dL_bead_8 : decode cL_bead 8 = .ok (.goto 6, 3) := by decide +kernel
theorem dL_bead_11 : decode cL_bead 11 = .ok (.astore_n 2, 1) := by decide +kernel
theorem dL_bead_12 : decode cL_bead 12 = .ok (.iconst 1, 1) := by decide +kernel
theorem dL_bead_13 : decode cL_bead 13 = .ok (.ireturn, 1) := by decide +kernel
theorem dL_bead_14 : decode cL_bead 14 = .ok (.iconst 0, 1) := by decide +kernel
theorem dL_bead_15 : decode cL_bead 15 = .ok (.ireturn, 1) := by decide +kernel
set_option maxRecDepth 20000 in
theorem ggL_set_X3_set : GoodIn wsL_set wsX3_set := goodIn_ca (goodIn_ca (goodIn_ca (goodIn_r _ [8, 9, 10, 11, 12, 13, 14, 15, 16, 17, 18, 7, 19, 20, 21, 22, 23, 24, 25, 26, 27, 28, 29, 30, 31, 32, 33, 34, 35, 36, 37, 38, 39, 40, 41, 42, 43, 44, 45, 46, 47, 48, 49, 50, 51, 52, 53, 54, 55, 56, 57, 58, 59] (by decide +kernel) (by decide +kernel)) (goodIn_sub (fun _ h => List.mem_cons_of_mem _ (List.mem_append_left _ (List.mem_append_left _ (List.mem_append_right _ h)))) (by decide +kernel))) (goodIn_sub (fun _ h => List.mem_cons_of_mem _ (List.mem_append_left _ (List.mem_append_right _ h))) (by decide +kernel))) (goodIn_sub (fun _ h => List.mem_cons_of_mem _ (List.mem_append_right _ h)) (by decide +kernel))
set_option maxRecDepth 20000 in
theorem gL_set_X3_set : GoodIn wsL_set (wsV RL 59 RX3 yX3_set wsX3_set) := goodIn_app (goodIn_of _ (by decide +kernel)) ggL_set_X3_set
theorem dL_set_0 : decode cL_set 0 = .ok (.aload 5, 2) := by decide +kernel
theorem dL_set_2 : decode cL_set 2 = .ok (.iconst 0, 1) := by decide +kernel
theorem dL_set_3 : decode cL_set 3 = .ok (.aload_n 0, 1) := by decide +kernel
theorem dL_set_4 : decode cL_set 4 = .ok (.iload_n 1, 1) := by decide +kernel
theorem dL_set_5 : decode cL_set 5 = .ok (.iload_n 2, 1) := by decide +kernel
theorem dL_set_6 : decode cL_set 6 = .ok (.iload_n 3, 1) := by decide +kernel
theorem dL_set_7 : decode cL_set 7 = .ok (.iload 4, 2) := by decide +kernel
theorem dL_set_9 : decode cL_set 9 = .ok (.invokevirtual 59, 3) := by decide +kernel
theorem dL_set_12 : decode cL_set 12 = .ok (.i2l, 1) := by decide +kernel
theorem dL_set_13 : decode cL_set 13 = .ok (.lastore, 1) := by decide +kernel
theorem dL_set_14 : decode cL_set 14 = .ok (.goto 15, 3) := by decide +kernel
theorem dL_set_17 : decode cL_set 17 = .ok (.astore 6, 2) := by decide +kernel
theorem dL_set_19 : decode cL_set 19 = .ok (.iconst 1, 1) := by decide +kernel
theorem dL_set_20 : decode cL_set 20 = .ok (.ireturn, 1) := by decide +kernel
theorem dL_set_21 : decode cL_set 21 = .ok (.astore 6, 2) := by decide +kernel
theorem dL_set_23 : decode cL_set 23 = .ok (.iconst 2, 1) := by decide +kernel
theorem dL_set_24 : decode cL_set 24 = .ok (.ireturn, 1) := by decide +kernel
theorem dL_set_25 : decode cL_set 25 = .ok (.astore 6, 2) := by decide +kernel
theorem dL_set_27 : decode cL_set 27 = .ok (.iconst 3, 1) := by decide +kernel
theorem dL_set_28 : decode cL_set 28 = .ok (.ireturn, 1) := by decide +kernel
theorem dL_set_29 : decode cL_set 29 = .ok (.iconst 0, 1) := by decide +kernel
theorem dL_set_30 : decode cL_set 30 = .ok (.ireturn, 1) := by decide +kernel
set_option maxRecDepth 20000 in
theorem ggL_drop_X3_drop : GoodIn wsL_drop wsX3_drop := goodIn_ca (goodIn_ca (goodIn_r _ [7, 8, 9, 10, 11, 12, 13, 14, 15, 6, 16, 17, 18, 19, 20, 21, 22, 23, 24, 25, 26, 27, 28, 29, 30, 31, 32, 33, 34, 35, 36, 37, 38, 39, 40] (by decide +kernel) (by decide +kernel)) (goodIn_sub (fun _ h => List.mem_cons_of_mem _ (List.mem_append_left _ (List.mem_append_right _ h))) (by decide +kernel))) (goodIn_sub (fun _ h => List.mem_cons_of_mem _ (List.mem_append_right _ h)) (by decide +kernel))
set_option maxRecDepth 20000 in
theorem gL_drop_X3_drop : GoodIn wsL_drop (wsV RL 62 RX3 yX3_drop wsX3_drop) := goodIn_app (goodIn_of _ (by decide +kernel)) ggL_drop_X3_drop
theorem dL_drop_0 : decode cL_drop 0 = .ok (.aload_n 3, 1) := by decide +kernel
theorem dL_drop_1 : decode cL_drop 1 = .ok (.iconst 0, 1) := by decide +kernel
theorem dL_drop_2 : decode cL_drop 2 = .ok (.aload_n 0, 1) := by decide +kernel
theorem dL_drop_3 : decode cL_drop 3 = .ok (.iload_n 1, 1) := by decide +kernel
theorem dL_drop_4 : decode cL_drop 4 = .ok (.iload_n 2, 1) := by decide +kernel
theorem dL_drop_5 : decode cL_drop 5 = .ok (.invokevirtual 62, 3) := by decide +kernel
theorem dL_drop_8 : decode cL_drop 8 = .ok (.i2l, 1) := by decide +kernel
theorem dL_drop_9 : decode cL_drop 9 = .ok (.lastore, 1) := by decide +kernel
theorem dL_drop_10 : decode cL_drop 10 = .ok (.goto 11, 3) := by decide +kernel
theorem dL_drop_13 : decode cL_drop 13 = .ok (.astore 4, 2) := by decide +kernel
theorem dL_drop_15 : decode cL_drop 15 = .ok (.iconst 1, 1) := by decide +kernel
theorem dL_drop_16 : decode cL_drop 16 = .ok (.ireturn, 1) := by decide +kernel
theorem dL_drop_17 : decode cL_drop 17 = .ok (.astore 4, 2) := by decide +kernel
theorem dL_drop_19 : decode cL_drop 19 = .ok (.iconst 2, 1) := by decide +kernel
theorem dL_drop_20 : decode cL_drop 20 = .ok (.ireturn, 1) := by decide +kernel
theorem dL_drop_21 : decode cL_drop 21 = .ok (.iconst 0, 1) := by decide +kernel
theorem dL_drop_22 : decode cL_drop 22 = .ok (.ireturn, 1) := by decide +kernel
set_option maxRecDepth 20000 in
theorem ggL_seen_X3_seen : GoodIn wsL_seen wsX3_seen := goodIn_ca (goodIn_r _ [6, 7, 8, 9, 10, 11, 12, 5, 13, 14, 15, 16, 17, 18, 19, 20, 21, 22, 23, 24, 25, 26, 27, 28, 29, 30, 31, 32, 33, 34, 35, 36, 37, 38, 39, 40, 41, 42, 43, 44, 45, 46, 47, 48, 49, 50] (by decide +kernel) (by decide +kernel)) (goodIn_sub (fun _ h => List.mem_cons_of_mem _ (List.mem_append_right _ h)) (by decide +kernel))
set_option maxRecDepth 20000 in
theorem gL_seen_X3_seen : GoodIn wsL_seen (wsV RL 65 RX3 yX3_seen wsX3_seen) := goodIn_app (goodIn_of _ (by decide +kernel)) ggL_seen_X3_seen
theorem dL_seen_0 : decode cL_seen 0 = .ok (.aload 5, 2) := by decide +kernel
theorem dL_seen_2 : decode cL_seen 2 = .ok (.iconst 0, 1) := by decide +kernel
theorem dL_seen_3 : decode cL_seen 3 = .ok (.aload_n 0, 1) := by decide +kernel
theorem dL_seen_4 : decode cL_seen 4 = .ok (.iload_n 1, 1) := by decide +kernel
theorem dL_seen_5 : decode cL_seen 5 = .ok (.iload_n 2, 1) := by decide +kernel
theorem dL_seen_6 : decode cL_seen 6 = .ok (.iload_n 3, 1) := by decide +kernel
theorem dL_seen_7 : decode cL_seen 7 = .ok (.iload 4, 2) := by decide +kernel
theorem dL_seen_9 : decode cL_seen 9 = .ok (.invokevirtual 65, 3) := by decide +kernel
theorem dL_seen_12 : decode cL_seen 12 = .ok (.i2l, 1) := by decide +kernel
theorem dL_seen_13 : decode cL_seen 13 = .ok (.lastore, 1) := by decide +kernel
theorem dL_seen_14 : decode cL_seen 14 = .ok (.goto 7, 3) := by decide +kernel
theorem dL_seen_17 : decode cL_seen 17 = .ok (.astore 6, 2) := by decide +kernel
theorem dL_seen_19 : decode cL_seen 19 = .ok (.iconst 1, 1) := by decide +kernel
theorem dL_seen_20 : decode cL_seen 20 = .ok (.ireturn, 1) := by decide +kernel
theorem dL_seen_21 : decode cL_seen 21 = .ok (.iconst 0, 1) := by decide +kernel
theorem dL_seen_22 : decode cL_seen 22 = .ok (.ireturn, 1) := by decide +kernel
set_option maxRecDepth 20000 in
theorem ggL_count_X3_count : GoodIn wsL_count wsX3_count := goodIn_ca (goodIn_r _ [6, 7, 8, 9, 10, 11, 5, 12, 13, 14, 15, 16, 17, 18, 19, 20, 21, 22, 23, 24, 25, 26, 27, 28, 29, 30, 31, 32, 33, 34, 35, 36, 37, 38, 39, 40, 41, 42, 43, 44, 45, 46, 47, 48, 49, 50, 51, 52, 53, 54, 55, 56, 57, 58, 59, 60, 61, 62, 63, 64, 65, 66, 67, 68, 69, 70, 71, 72, 73, 74] (by decide +kernel) (by decide +kernel)) (goodIn_sub (fun _ h => List.mem_cons_of_mem _ (List.mem_append_right _ h)) (by decide +kernel))
set_option maxRecDepth 20000 in
theorem gL_count_X3_count : GoodIn wsL_count (wsV RL 68 RX3 yX3_count wsX3_count) := goodIn_app (goodIn_of _ (by decide +kernel)) ggL_count_X3_count
theorem dL_count_0 : decode cL_count 0 = .ok (.aload_n 2, 1) := by decide +kernel
theorem dL_count_1 : decode cL_count 1 = .ok (.iconst 0, 1) := by decide +kernel
theorem dL_count_2 : decode cL_count 2 = .ok (.aload_n 0, 1) := by decide +kernel
theorem dL_count_3 : decode cL_count 3 = .ok (.iload_n 1, 1) := by decide +kernel
theorem dL_count_4 : decode cL_count 4 = .ok (.invokevirtual 68, 3) := by decide +kernel
theorem dL_count_7 : decode cL_count 7 = .ok (.i2l, 1) := by decide +kernel
theorem dL_count_8 : decode cL_count 8 = .ok (.lastore, 1) := by decide +kernel
theorem dL_count_9 : decode cL_count 9 = .ok (.goto 6, 3) := by decide +kernel
theorem dL_count_12 : decode cL_count 12 = .ok (.astore_n 3, 1) := by decide +kernel
theorem dL_count_13 : decode cL_count 13 = .ok (.iconst 1, 1) := by decide +kernel
theorem dL_count_14 : decode cL_count 14 = .ok (.ireturn, 1) := by decide +kernel
theorem dL_count_15 : decode cL_count 15 = .ok (.iconst 0, 1) := by decide +kernel
theorem dL_count_16 : decode cL_count 16 = .ok (.ireturn, 1) := by decide +kernel
set_option maxRecDepth 20000 in
theorem ggL_again_X3_again : GoodIn wsL_again wsX3_again := goodIn_ca (goodIn_r _ [6, 7, 8, 9, 10, 11, 5, 12, 13, 14, 15, 16, 17, 18, 19, 20, 21, 22, 23, 24, 25, 26, 27, 28, 29, 30, 31, 32, 33, 34, 35, 36, 37, 38, 39, 40, 41, 42, 43, 44, 45, 46, 47, 48, 49, 50, 51, 52, 53, 54, 55] (by decide +kernel) (by decide +kernel)) (goodIn_sub (fun _ h => List.mem_cons_of_mem _ (List.mem_append_right _ h)) (by decide +kernel))
set_option maxRecDepth 20000 in
theorem gL_again_X3_again : GoodIn wsL_again (wsV RL 71 RX3 yX3_again wsX3_again) := goodIn_app (goodIn_of _ (by decide +kernel)) ggL_again_X3_again
theorem dL_again_0 : decode cL_again 0 = .ok (.aload_n 3, 1) := by decide +kernel
theorem dL_again_1 : decode cL_again 1 = .ok (.iconst 0, 1) := by decide +kernel
theorem dL_again_2 : decode cL_again 2 = .ok (.aload_n 0, 1) := by decide +kernel
theorem dL_again_3 : decode cL_again 3 = .ok (.iload_n 1, 1) := by decide +kernel
theorem dL_again_4 : decode cL_again 4 = .ok (.iload_n 2, 1) := by decide +kernel
theorem dL_again_5 : decode cL_again 5 = .ok (.invokevirtual 71, 3) := by decide +kernel
theorem dL_again_8 : decode cL_again 8 = .ok (.i2l, 1) := by decide +kernel
theorem dL_again_9 : decode cL_again 9 = .ok (.lastore, 1) := by decide +kernel
theorem dL_again_10 : decode cL_again 10 = .ok (.goto 7, 3) := by decide +kernel
theorem dL_again_13 : decode cL_again 13 = .ok (.astore 4, 2) := by decide +kernel
theorem dL_again_15 : decode cL_again 15 = .ok (.iconst 1, 1) := by decide +kernel
theorem dL_again_16 : decode cL_again 16 = .ok (.ireturn, 1) := by decide +kernel
theorem dL_again_17 : decode cL_again 17 = .ok (.iconst 0, 1) := by decide +kernel
theorem dL_again_18 : decode cL_again 18 = .ok (.ireturn, 1) := by decide +kernel
set_option maxRecDepth 20000 in
theorem ggL_turn_X3_turn : GoodIn wsL_turn wsX3_turn := goodIn_ca (goodIn_r _ [6, 7, 8, 9, 10, 11, 5, 12, 13, 14, 15, 16, 17, 18, 19, 20, 21, 22, 23, 24, 25, 26, 27, 28, 29, 30, 31, 32, 33, 34, 35, 36, 37, 38, 39, 40, 41, 42, 43, 44, 45, 46, 47, 48] (by decide +kernel) (by decide +kernel)) (goodIn_sub (fun _ h => List.mem_cons_of_mem _ (List.mem_append_right _ h)) (by decide +kernel))
set_option maxRecDepth 20000 in
theorem gL_turn_X3_turn : GoodIn wsL_turn (wsV RL 74 RX3 yX3_turn wsX3_turn) := goodIn_app (goodIn_of _ (by decide +kernel)) ggL_turn_X3_turn
theorem dL_turn_0 : decode cL_turn 0 = .ok (.aload_n 3, 1) := by decide +kernel
theorem dL_turn_1 : decode cL_turn 1 = .ok (.iconst 0, 1) := by decide +kernel
theorem dL_turn_2 : decode cL_turn 2 = .ok (.aload_n 0, 1) := by decide +kernel
theorem dL_turn_3 : decode cL_turn 3 = .ok (.iload_n 1, 1) := by decide +kernel
theorem dL_turn_4 : decode cL_turn 4 = .ok (.iload_n 2, 1) := by decide +kernel
theorem dL_turn_5 : decode cL_turn 5 = .ok (.invokevirtual 74, 3) := by decide +kernel
theorem dL_turn_8 : decode cL_turn 8 = .ok (.i2l, 1) := by decide +kernel
theorem dL_turn_9 : decode cL_turn 9 = .ok (.lastore, 1) := by decide +kernel
theorem dL_turn_10 : decode cL_turn 10 = .ok (.goto 7, 3) := by decide +kernel
theorem dL_turn_13 : decode cL_turn 13 = .ok (.astore 4, 2) := by decide +kernel
theorem dL_turn_15 : decode cL_turn 15 = .ok (.iconst 1, 1) := by decide +kernel
theorem dL_turn_16 : decode cL_turn 16 = .ok (.ireturn, 1) := by decide +kernel
theorem dL_turn_17 : decode cL_turn 17 = .ok (.iconst 0, 1) := by decide +kernel
theorem dL_turn_18 : decode cL_turn 18 = .ok (.ireturn, 1) := by decide +kernel
set_option maxRecDepth 20000 in
theorem ggL_cuts_X3_cuts : GoodIn wsL_cuts wsX3_cuts := goodIn_ca (goodIn_r _ [6, 7, 8, 9, 10, 11, 5, 12, 13, 14, 15, 16, 17, 18, 19, 20, 21, 22, 23, 24, 25, 26, 27, 28, 29, 30, 31, 32, 33, 34, 35, 36, 37, 38, 39, 40, 41, 42, 43, 44, 45, 46, 47, 48, 49, 50, 51, 52, 53, 54, 55, 56, 57, 58, 59, 60] (by decide +kernel) (by decide +kernel)) (goodIn_sub (fun _ h => List.mem_cons_of_mem _ (List.mem_append_right _ h)) (by decide +kernel))
set_option maxRecDepth 20000 in
theorem gL_cuts_X3_cuts : GoodIn wsL_cuts (wsV RL 77 RX3 yX3_cuts wsX3_cuts) := goodIn_app (goodIn_of _ (by decide +kernel)) ggL_cuts_X3_cuts
theorem dL_cuts_0 : decode cL_cuts 0 = .ok (.aload_n 3, 1) := by decide +kernel
theorem dL_cuts_1 : decode cL_cuts 1 = .ok (.iconst 0, 1) := by decide +kernel
theorem dL_cuts_2 : decode cL_cuts 2 = .ok (.aload_n 0, 1) := by decide +kernel
theorem dL_cuts_3 : decode cL_cuts 3 = .ok (.iload_n 1, 1) := by decide +kernel
theorem dL_cuts_4 : decode cL_cuts 4 = .ok (.iload_n 2, 1) := by decide +kernel
theorem dL_cuts_5 : decode cL_cuts 5 = .ok (.invokevirtual 77, 3) := by decide +kernel
theorem dL_cuts_8 : decode cL_cuts 8 = .ok (.i2l, 1) := by decide +kernel
theorem dL_cuts_9 : decode cL_cuts 9 = .ok (.lastore, 1) := by decide +kernel
theorem dL_cuts_10 : decode cL_cuts 10 = .ok (.goto 7, 3) := by decide +kernel
theorem dL_cuts_13 : decode cL_cuts 13 = .ok (.astore 4, 2) := by decide +kernel
theorem dL_cuts_15 : decode cL_cuts 15 = .ok (.iconst 1, 1) := by decide +kernel
theorem dL_cuts_16 : decode cL_cuts 16 = .ok (.ireturn, 1) := by decide +kernel
theorem dL_cuts_17 : decode cL_cuts 17 = .ok (.iconst 0, 1) := by decide +kernel
theorem dL_cuts_18 : decode cL_cuts 18 = .ok (.ireturn, 1) := by decide +kernel
set_option maxRecDepth 20000 in
theorem ggL_mends_X3_mends : GoodIn wsL_mends wsX3_mends := goodIn_ca (goodIn_r _ [6, 7, 8, 9, 10, 11, 12, 5, 13, 14, 15, 16, 17, 18, 19, 20, 21, 22, 23, 24, 25, 26, 27, 28, 29, 30, 31, 32, 33, 34, 35, 36, 37, 38, 39, 40, 41, 42, 43, 44, 45, 46, 47, 48, 49, 50, 51, 52, 53, 54, 55, 56, 57, 58, 59, 60, 61, 62, 63, 64, 65] (by decide +kernel) (by decide +kernel)) (goodIn_sub (fun _ h => List.mem_cons_of_mem _ (List.mem_append_right _ h)) (by decide +kernel))
set_option maxRecDepth 20000 in
theorem gL_mends_X3_mends : GoodIn wsL_mends (wsV RL 80 RX3 yX3_mends wsX3_mends) := goodIn_app (goodIn_of _ (by decide +kernel)) ggL_mends_X3_mends
theorem dL_mends_0 : decode cL_mends 0 = .ok (.aload_n 2, 1) := by decide +kernel
theorem dL_mends_1 : decode cL_mends 1 = .ok (.iconst 0, 1) := by decide +kernel
theorem dL_mends_2 : decode cL_mends 2 = .ok (.aload_n 0, 1) := by decide +kernel
theorem dL_mends_3 : decode cL_mends 3 = .ok (.iload_n 1, 1) := by decide +kernel
theorem dL_mends_4 : decode cL_mends 4 = .ok (.invokevirtual 80, 3) := by decide +kernel
theorem dL_mends_7 : decode cL_mends 7 = .ok (.i2l, 1) := by decide +kernel
theorem dL_mends_8 : decode cL_mends 8 = .ok (.lastore, 1) := by decide +kernel
theorem dL_mends_9 : decode cL_mends 9 = .ok (.goto 6, 3) := by decide +kernel
theorem dL_mends_12 : decode cL_mends 12 = .ok (.astore_n 3, 1) := by decide +kernel
theorem dL_mends_13 : decode cL_mends 13 = .ok (.iconst 1, 1) := by decide +kernel
theorem dL_mends_14 : decode cL_mends 14 = .ok (.ireturn, 1) := by decide +kernel
theorem dL_mends_15 : decode cL_mends 15 = .ok (.iconst 0, 1) := by decide +kernel
theorem dL_mends_16 : decode cL_mends 16 = .ok (.ireturn, 1) := by decide +kernel
set_option maxRecDepth 20000 in
theorem ggL_law_X3_init : GoodIn wsL_law wsX3_init := goodIn_r _ [9, 10, 11, 12, 13, 14, 15, 16, 17, 18, 570, 571, 572, 573, 574, 575, 576, 577] (by decide +kernel) (by decide +kernel)
set_option maxRecDepth 20000 in
theorem gL_law_X3_init : GoodIn wsL_law (wsX3_init) := ggL_law_X3_init
set_option maxRecDepth 20000 in
theorem ggL_law_X4_init : GoodIn wsL_law wsX4_init := goodIn_r _ [21, 22, 11, 12, 23, 24, 25, 26, 27, 28, 29, 30, 31, 32, 33, 578, 579, 580, 581, 582, 583, 584, 585, 586, 587, 588, 589, 590, 591, 592] (by decide +kernel) (by decide +kernel)
set_option maxRecDepth 20000 in
theorem gL_law_X4_init : GoodIn wsL_law (wsX4_init) := ggL_law_X4_init
set_option maxRecDepth 20000 in
theorem ggL_law_L_begin : GoodIn wsL_law wsL_begin := goodIn_ca (goodIn_r _ [37, 38, 39, 40, 41, 2, 42, 43, 44, 45, 14, 13, 46, 47, 48, 49, 50, 51, 11, 12, 52, 53, 54, 55, 56, 57, 58, 59, 60, 61, 24, 62, 570, 571, 572, 573, 574, 575, 576, 577, 593, 594, 595, 596, 597, 598] (by decide +kernel) (by decide +kernel)) (goodIn_sub (fun _ h => List.mem_append_left _ (List.mem_append_left _ (List.mem_append_right _ h))) (by decide +kernel))
set_option maxRecDepth 20000 in
theorem gL_law_L_begin : GoodIn wsL_law (va_wsS RL 87 yL_begin wsL_begin) := goodIn_app (goodIn_of _ (by decide +kernel)) ggL_law_L_begin
set_option maxRecDepth 20000 in
theorem ggL_law_X4_begin : GoodIn wsL_law wsX4_begin := goodIn_r _ [66, 67, 68, 25, 27, 28, 69, 70, 71, 5, 72, 578, 579, 580, 581, 582, 583, 584, 585, 586, 587, 588, 589, 590, 591, 592] (by decide +kernel) (by decide +kernel)
set_option maxRecDepth 20000 in
theorem gL_law_X4_begin : GoodIn wsL_law (wsV RL 92 RX4 yX4_begin wsX4_begin) := goodIn_app (goodIn_of _ (by decide +kernel)) ggL_law_X4_begin
set_option maxRecDepth 20000 in
theorem ggL_law_X4_thrown : GoodIn wsL_law wsX4_thrown := goodIn_r _ [76, 67, 578, 579, 580, 581, 582, 583, 584, 585, 586, 587, 588, 589, 590, 591, 592] (by decide +kernel) (by decide +kernel)
set_option maxRecDepth 20000 in
theorem gL_law_X4_thrown : GoodIn wsL_law (wsV RL 93 RX4 yX4_thrown wsX4_thrown) := goodIn_app (goodIn_of _ (by decide +kernel)) ggL_law_X4_thrown
set_option maxRecDepth 20000 in
theorem ggL_law_L_lay : GoodIn wsL_law wsL_lay := goodIn_ca (goodIn_ca (goodIn_ca (goodIn_r _ [79, 80, 81, 38, 82, 83, 84, 2, 85, 86, 87, 88, 89, 43, 44, 90, 91, 92, 93, 14, 94, 95, 96, 97, 98, 99, 100, 101, 102, 47, 103, 57, 104, 105, 106, 107, 54, 108, 62, 109, 110, 111, 112, 113, 114, 115, 116, 117, 118, 119, 18, 120, 121, 122, 123, 124, 125, 126, 127, 128, 129, 130, 131, 593, 594, 595, 596, 597, 570, 571, 572, 573, 574, 575, 576, 577, 598] (by decide +kernel) (by decide +kernel)) (goodIn_sub (fun _ h => List.mem_append_left _ (List.mem_append_right _ h)) (by decide +kernel))) (goodIn_sub (fun _ h => List.mem_append_right _ h) (by decide +kernel))) (goodIn_sub (fun _ h => List.mem_append_left _ (List.mem_append_left _ (List.mem_append_right _ h))) (by decide +kernel))
set_option maxRecDepth 20000 in
theorem gL_law_L_lay : GoodIn wsL_law (va_wsS RL 96 yL_lay wsL_lay) := goodIn_app (goodIn_of _ (by decide +kernel)) ggL_law_L_lay
set_option maxRecDepth 20000 in
theorem ggL_law_X4_lay : GoodIn wsL_law wsX4_lay := goodIn_r _ [135, 67, 28, 29, 136, 137, 138, 5, 139, 68, 140, 141, 142, 69, 70, 71, 72, 143, 144, 145, 146, 147, 148, 149, 27, 150, 151, 152, 153, 23, 154, 126, 127, 128, 155, 130, 131, 156, 578, 579, 580, 581, 582, 583, 584, 585, 586, 587, 588, 589, 590, 591, 592] (by decide +kernel) (by decide +kernel)
set_option maxRecDepth 20000 in
theorem gL_law_X4_lay : GoodIn wsL_law (wsV RL 99 RX4 yX4_lay wsX4_lay) := goodIn_app (goodIn_of _ (by decide +kernel)) ggL_law_X4_lay
set_option maxRecDepth 20000 in
theorem ggL_law_L_twist : GoodIn wsL_law wsL_twist := goodIn_ca (goodIn_ca (goodIn_ca (goodIn_r _ [159, 80, 81, 38, 160, 161, 162, 2, 163, 86, 87, 88, 89, 43, 44, 90, 91, 92, 93, 14, 164, 165, 166, 100, 101, 102, 47, 103, 57, 104, 116, 117, 118, 119, 18, 120, 121, 122, 123, 124, 125, 126, 127, 128, 129, 130, 131, 593, 594, 595, 596, 597, 570, 571, 572, 573, 574, 575, 576, 577] (by decide +kernel) (by decide +kernel)) (goodIn_sub (fun _ h => List.mem_append_left _ (List.mem_append_right _ h)) (by decide +kernel))) (goodIn_sub (fun _ h => List.mem_append_right _ h) (by decide +kernel))) (goodIn_sub (fun _ h => List.mem_append_left _ (List.mem_append_left _ (List.mem_append_right _ h))) (by decide +kernel))
set_option maxRecDepth 20000 in
theorem gL_law_L_twist : GoodIn wsL_law (va_wsS RL 100 yL_twist wsL_twist) := goodIn_app (goodIn_of _ (by decide +kernel)) ggL_law_L_twist
set_option maxRecDepth 20000 in
theorem ggL_law_X4_twist : GoodIn wsL_law wsX4_twist := goodIn_r _ [170, 67, 28, 26, 136, 137, 138, 5, 139, 68, 140, 141, 142, 69, 70, 71, 72, 146, 147, 148, 149, 27, 150, 151, 152, 153, 23, 154, 126, 127, 128, 155, 130, 131, 156, 578, 579, 580, 581, 582, 583, 584, 585, 586, 587, 588, 589, 590, 591, 592] (by decide +kernel) (by decide +kernel)
set_option maxRecDepth 20000 in
theorem gL_law_X4_twist : GoodIn wsL_law (wsV RL 103 RX4 yX4_twist wsX4_twist) := goodIn_app (goodIn_of _ (by decide +kernel)) ggL_law_X4_twist
set_option maxRecDepth 20000 in
theorem ggL_law_L_pull : GoodIn wsL_law wsL_pull := goodIn_ca (goodIn_ca (goodIn_r _ [173, 80, 38, 174, 175, 176, 2, 177, 86, 87, 43, 44, 90, 91, 92, 93, 14, 100, 101, 102, 47, 103, 57, 104, 178, 179, 180, 181, 56, 125, 126, 127, 128, 182, 116, 117, 118, 119, 18, 120, 121, 122, 123, 124, 129, 130, 131, 593, 594, 595, 596, 597, 570, 571, 572, 573, 574, 575, 576, 577] (by decide +kernel) (by decide +kernel)) (goodIn_sub (fun _ h => List.mem_append_left _ (List.mem_append_right _ h)) (by decide +kernel))) (goodIn_sub (fun _ h => List.mem_append_left _ (List.mem_append_left _ (List.mem_append_right _ h))) (by decide +kernel))
set_option maxRecDepth 20000 in
theorem gL_law_L_pull : GoodIn wsL_law (va_wsS RL 104 yL_pull wsL_pull) := goodIn_app (goodIn_of _ (by decide +kernel)) ggL_law_L_pull
set_option maxRecDepth 20000 in
theorem ggL_law_X4_pull : GoodIn wsL_law wsX4_pull := goodIn_r _ [186, 67, 28, 25, 154, 126, 127, 128, 26, 136, 137, 138, 5, 139, 68, 140, 141, 142, 69, 70, 71, 72, 146, 147, 148, 149, 27, 150, 151, 152, 153, 23, 155, 130, 131, 156, 578, 579, 580, 581, 582, 583, 584, 585, 586, 587, 588, 589, 590, 591, 592] (by decide +kernel) (by decide +kernel)
set_option maxRecDepth 20000 in
theorem gL_law_X4_pull : GoodIn wsL_law (wsV RL 107 RX4 yX4_pull wsX4_pull) := goodIn_app (goodIn_of _ (by decide +kernel)) ggL_law_X4_pull
set_option maxRecDepth 20000 in
theorem ggL_law_L_furnace : GoodIn wsL_law wsL_furnace := goodIn_ca (goodIn_r _ [189, 80, 190, 191, 192, 2, 193, 86, 87, 18, 90, 91, 92, 93, 14, 570, 571, 572, 573, 574, 575, 576, 577] (by decide +kernel) (by decide +kernel)) (goodIn_sub (fun _ h => List.mem_append_left _ (List.mem_append_right _ h)) (by decide +kernel))
set_option maxRecDepth 20000 in
theorem gL_law_L_furnace : GoodIn wsL_law (va_wsS RL 108 yL_furnace wsL_furnace) := goodIn_app (goodIn_of _ (by decide +kernel)) ggL_law_L_furnace
set_option maxRecDepth 20000 in
theorem ggL_law_X4_furnace : GoodIn wsL_law wsX4_furnace := goodIn_r _ [197, 67, 23, 136, 137, 138, 5, 139, 68, 140, 141, 142, 69, 70, 71, 72, 578, 579, 580, 581, 582, 583, 584, 585, 586, 587, 588, 589, 590, 591, 592] (by decide +kernel) (by decide +kernel)
set_option maxRecDepth 20000 in
theorem gL_law_X4_furnace : GoodIn wsL_law (wsV RL 110 RX4 yX4_furnace wsX4_furnace) := goodIn_app (goodIn_of _ (by decide +kernel)) ggL_law_X4_furnace
set_option maxRecDepth 20000 in
theorem ggL_law_L_rest : GoodIn wsL_law wsL_rest := goodIn_ca (goodIn_r _ [200, 81, 201, 202, 203, 2, 204, 88, 89, 116, 117, 118, 119, 14, 18, 120, 121, 122, 123, 47, 124, 57, 125, 126, 127, 128, 129, 130, 131, 205, 206, 207, 208, 570, 571, 572, 573, 574, 575, 576, 577, 593, 594, 595, 596, 597] (by decide +kernel) (by decide +kernel)) (goodIn_sub (fun _ h => List.mem_append_right _ h) (by decide +kernel))
set_option maxRecDepth 20000 in
theorem gL_law_L_rest : GoodIn wsL_law (va_wsS RL 111 yL_rest wsL_rest) := goodIn_app (goodIn_of _ (by decide +kernel)) ggL_law_L_rest
set_option maxRecDepth 20000 in
theorem ggL_law_X4_rest : GoodIn wsL_law wsX4_rest := goodIn_r _ [212, 67, 140, 141, 5, 142, 69, 70, 71, 72, 150, 151, 152, 153, 68, 27, 23, 154, 126, 127, 128, 155, 130, 131, 156, 213, 214, 215, 216, 578, 579, 580, 581, 582, 583, 584, 585, 586, 587, 588, 589, 590, 591, 592] (by decide +kernel) (by decide +kernel)
set_option maxRecDepth 20000 in
theorem gL_law_X4_rest : GoodIn wsL_law (wsV RL 113 RX4 yX4_rest wsX4_rest) := goodIn_app (goodIn_of _ (by decide +kernel)) ggL_law_X4_rest
set_option maxRecDepth 20000 in
theorem ggL_law_L_cut : GoodIn wsL_law wsL_cut := goodIn_ca (goodIn_ca (goodIn_r _ [219, 80, 38, 220, 221, 222, 2, 223, 86, 87, 43, 44, 224, 16, 15, 225, 226, 90, 91, 92, 93, 14, 227, 228, 229, 47, 230, 182, 231, 232, 233, 54, 234, 235, 53, 62, 236, 59, 60, 61, 11, 12, 24, 237, 238, 239, 240, 109, 110, 111, 112, 113, 114, 115, 241, 242, 243, 244, 245, 246, 247, 248, 249, 250, 251, 252, 253, 254, 255, 256, 257, 258, 259, 260, 593, 594, 595, 596, 597, 570, 571, 572, 573, 574, 575, 576, 577, 599, 600, 601, 602, 603, 598] (by decide +kernel) (by decide +kernel)) (goodIn_sub (fun _ h => List.mem_append_left _ (List.mem_append_right _ h)) (by decide +kernel))) (goodIn_sub (fun _ h => List.mem_append_left _ (List.mem_append_left _ (List.mem_append_right _ h))) (by decide +kernel))
set_option maxRecDepth 20000 in
theorem gL_law_L_cut : GoodIn wsL_law (va_wsS RL 114 yL_cut wsL_cut) := goodIn_app (goodIn_of _ (by decide +kernel)) ggL_law_L_cut
set_option maxRecDepth 20000 in
theorem ggL_law_X4_cut : GoodIn wsL_law wsX4_cut := goodIn_r _ [264, 67, 25, 27, 265, 30, 29, 26, 31, 136, 137, 138, 5, 139, 68, 140, 141, 142, 69, 70, 71, 72, 266, 267, 268, 269, 270, 113, 114, 115, 578, 579, 580, 581, 582, 583, 584, 585, 586, 587, 588, 589, 590, 591, 592] (by decide +kernel) (by decide +kernel)
set_option maxRecDepth 20000 in
theorem gL_law_X4_cut : GoodIn wsL_law (wsV RL 116 RX4 yX4_cut wsX4_cut) := goodIn_app (goodIn_of _ (by decide +kernel)) ggL_law_X4_cut
set_option maxRecDepth 20000 in
theorem ggL_law_L_cane : GoodIn wsL_law wsL_cane := goodIn_ca (goodIn_r _ [273, 80, 274, 275, 276, 2, 277, 86, 87, 18, 90, 91, 92, 93, 14, 278, 279, 280, 47, 281, 56, 182, 57, 104, 570, 571, 572, 573, 574, 575, 576, 577, 593, 594, 595, 596, 597] (by decide +kernel) (by decide +kernel)) (goodIn_sub (fun _ h => List.mem_append_left _ (List.mem_append_right _ h)) (by decide +kernel))
set_option maxRecDepth 20000 in
theorem gL_law_L_cane : GoodIn wsL_law (va_wsS RL 117 yL_cane wsL_cane) := goodIn_app (goodIn_of _ (by decide +kernel)) ggL_law_L_cane
set_option maxRecDepth 20000 in
theorem ggL_law_X4_cane : GoodIn wsL_law wsX4_cane := goodIn_r _ [285, 67, 136, 137, 138, 5, 139, 68, 140, 141, 142, 286, 287, 288, 289, 24, 25, 26, 27, 28, 23, 69, 70, 71, 72, 578, 579, 580, 581, 582, 583, 584, 585, 586, 587, 588, 589, 590, 591, 592] (by decide +kernel) (by decide +kernel)
set_option maxRecDepth 20000 in
theorem gL_law_X4_cane : GoodIn wsL_law (wsV RL 119 RX4 yX4_cane wsX4_cane) := goodIn_app (goodIn_of _ (by decide +kernel)) ggL_law_X4_cane
set_option maxRecDepth 20000 in
theorem ggL_law_L_shows : GoodIn wsL_law wsL_shows := goodIn_ca (goodIn_r _ [292, 80, 293, 294, 295, 2, 296, 86, 87, 90, 91, 92, 93, 14, 297, 298, 299, 47, 300, 56, 94, 95, 96, 97, 98, 99, 227, 228, 229, 230, 182, 301, 238, 239, 54, 240, 62, 109, 110, 111, 112, 113, 114, 115, 593, 594, 595, 596, 597, 570, 571, 572, 573, 574, 575, 576, 577, 598] (by decide +kernel) (by decide +kernel)) (goodIn_sub (fun _ h => List.mem_append_left _ (List.mem_append_right _ h)) (by decide +kernel))
set_option maxRecDepth 20000 in
theorem gL_law_L_shows : GoodIn wsL_law (va_wsS RL 120 yL_shows wsL_shows) := goodIn_app (goodIn_of _ (by decide +kernel)) ggL_law_L_shows
set_option maxRecDepth 20000 in
theorem ggL_law_X4_shows : GoodIn wsL_law wsX4_shows := goodIn_r _ [305, 67, 25, 29, 26, 136, 137, 138, 5, 139, 68, 140, 141, 142, 143, 144, 145, 69, 70, 71, 72, 266, 267, 268, 269, 270, 113, 114, 115, 306, 307, 308, 578, 579, 580, 581, 582, 583, 584, 585, 586, 587, 588, 589, 590, 591, 592] (by decide +kernel) (by decide +kernel)
set_option maxRecDepth 20000 in
theorem gL_law_X4_shows : GoodIn wsL_law (wsV RL 123 RX4 yX4_shows wsX4_shows) := goodIn_app (goodIn_of _ (by decide +kernel)) ggL_law_X4_shows
set_option maxRecDepth 20000 in
theorem ggL_law_L_colour : GoodIn wsL_law wsL_colour := goodIn_ca (goodIn_r _ [311, 80, 312, 313, 314, 2, 315, 86, 87, 316, 317, 318, 319, 16, 94, 95, 96, 97, 98, 99, 301, 238, 239, 54, 240, 62, 109, 110, 111, 112, 113, 114, 115, 599, 600, 601, 602, 603, 570, 571, 572, 573, 574, 575, 576, 577, 598] (by decide +kernel) (by decide +kernel)) (goodIn_sub (fun _ h => List.mem_append_left _ (List.mem_append_right _ h)) (by decide +kernel))
set_option maxRecDepth 20000 in
theorem gL_law_L_colour : GoodIn wsL_law (va_wsS RL 124 yL_colour wsL_colour) := goodIn_app (goodIn_of _ (by decide +kernel)) ggL_law_L_colour
set_option maxRecDepth 20000 in
theorem ggL_law_X4_colour : GoodIn wsL_law wsX4_colour := goodIn_r _ [323, 67, 30, 324, 325, 326, 5, 327, 265, 140, 141, 142, 143, 144, 145, 306, 307, 308, 69, 70, 71, 72, 578, 579, 580, 581, 582, 583, 584, 585, 586, 587, 588, 589, 590, 591, 592] (by decide +kernel) (by decide +kernel)
set_option maxRecDepth 20000 in
theorem gL_law_X4_colour : GoodIn wsL_law (wsV RL 127 RX4 yX4_colour wsX4_colour) := goodIn_app (goodIn_of _ (by decide +kernel)) ggL_law_X4_colour
set_option maxRecDepth 20000 in
theorem ggL_law_L_where : GoodIn wsL_law wsL_where := goodIn_ca (goodIn_r _ [330, 80, 331, 332, 333, 2, 334, 86, 87, 316, 317, 318, 319, 16, 599, 600, 601, 602, 603, 570, 571, 572, 573, 574, 575, 576, 577] (by decide +kernel) (by decide +kernel)) (goodIn_sub (fun _ h => List.mem_append_left _ (List.mem_append_right _ h)) (by decide +kernel))
set_option maxRecDepth 20000 in
theorem gL_law_L_where : GoodIn wsL_law (va_wsS RL 128 yL_where wsL_where) := goodIn_app (goodIn_of _ (by decide +kernel)) ggL_law_L_where
set_option maxRecDepth 20000 in
theorem ggL_law_X4_where : GoodIn wsL_law wsX4_where := goodIn_r _ [338, 67, 31, 324, 325, 326, 5, 327, 265, 140, 141, 142, 69, 70, 71, 72, 578, 579, 580, 581, 582, 583, 584, 585, 586, 587, 588, 589, 590, 591, 592] (by decide +kernel) (by decide +kernel)
set_option maxRecDepth 20000 in
theorem gL_law_X4_where : GoodIn wsL_law (wsV RL 130 RX4 yX4_where wsX4_where) := goodIn_app (goodIn_of _ (by decide +kernel)) ggL_law_X4_where
set_option maxRecDepth 20000 in
theorem ggL_law_L_bead : GoodIn wsL_law wsL_bead := goodIn_ca (goodIn_r _ [341, 38, 342, 343, 344, 2, 345, 43, 44, 346, 570, 571, 572, 573, 574, 575, 576, 577] (by decide +kernel) (by decide +kernel)) (goodIn_sub (fun _ h => List.mem_append_left _ (List.mem_append_left _ (List.mem_append_right _ h))) (by decide +kernel))
set_option maxRecDepth 20000 in
theorem gL_law_L_bead : GoodIn wsL_law (va_wsS RL 131 yL_bead wsL_bead) := goodIn_app (goodIn_of _ (by decide +kernel)) ggL_law_L_bead
set_option maxRecDepth 20000 in
theorem ggL_law_X4_bead : GoodIn wsL_law wsX4_bead := goodIn_r _ [350, 67, 351, 32, 69, 70, 71, 5, 72, 578, 579, 580, 581, 582, 583, 584, 585, 586, 587, 588, 589, 590, 591, 592] (by decide +kernel) (by decide +kernel)
set_option maxRecDepth 20000 in
theorem gL_law_X4_bead : GoodIn wsL_law (wsV RL 133 RX4 yX4_bead wsX4_bead) := goodIn_app (goodIn_of _ (by decide +kernel)) ggL_law_X4_bead
set_option maxRecDepth 20000 in
theorem ggL_law_L_set : GoodIn wsL_law wsL_set := goodIn_ca (goodIn_ca (goodIn_ca (goodIn_r _ [354, 80, 81, 38, 355, 356, 357, 2, 358, 86, 87, 88, 89, 43, 44, 17, 316, 317, 318, 319, 16, 359, 360, 361, 362, 346, 363, 364, 365, 97, 98, 99, 366, 367, 368, 226, 369, 260, 370, 371, 372, 373, 374, 375, 376, 377, 378, 570, 571, 572, 573, 574, 575, 576, 577, 599, 600, 601, 602, 603] (by decide +kernel) (by decide +kernel)) (goodIn_sub (fun _ h => List.mem_append_left _ (List.mem_append_right _ h)) (by decide +kernel))) (goodIn_sub (fun _ h => List.mem_append_right _ h) (by decide +kernel))) (goodIn_sub (fun _ h => List.mem_append_left _ (List.mem_append_left _ (List.mem_append_right _ h))) (by decide +kernel))
set_option maxRecDepth 20000 in
theorem gL_law_L_set : GoodIn wsL_law (va_wsS RL 134 yL_set wsL_set) := goodIn_app (goodIn_of _ (by decide +kernel)) ggL_law_L_set
set_option maxRecDepth 20000 in
theorem ggL_law_X4_set : GoodIn wsL_law wsX4_set := goodIn_r _ [382, 67, 32, 31, 33, 383, 384, 385, 5, 386, 351, 140, 141, 142, 324, 325, 326, 327, 265, 69, 70, 71, 72, 387, 388, 389, 390, 578, 579, 580, 581, 582, 583, 584, 585, 586, 587, 588, 589, 590, 591, 592] (by decide +kernel) (by decide +kernel)
set_option maxRecDepth 20000 in
theorem gL_law_X4_set : GoodIn wsL_law (wsV RL 136 RX4 yX4_set wsX4_set) := goodIn_app (goodIn_of _ (by decide +kernel)) ggL_law_X4_set
set_option maxRecDepth 20000 in
theorem ggL_law_L_drop : GoodIn wsL_law wsL_drop := goodIn_ca (goodIn_ca (goodIn_r _ [393, 80, 38, 394, 395, 396, 2, 397, 86, 87, 43, 44, 17, 359, 360, 361, 362, 346, 363, 364, 365, 398, 399, 400, 226, 401, 260, 374, 570, 571, 572, 573, 574, 575, 576, 577, 599, 600, 601, 602, 603] (by decide +kernel) (by decide +kernel)) (goodIn_sub (fun _ h => List.mem_append_left _ (List.mem_append_right _ h)) (by decide +kernel))) (goodIn_sub (fun _ h => List.mem_append_left _ (List.mem_append_left _ (List.mem_append_right _ h))) (by decide +kernel))
set_option maxRecDepth 20000 in
theorem gL_law_L_drop : GoodIn wsL_law (va_wsS RL 137 yL_drop wsL_drop) := goodIn_app (goodIn_of _ (by decide +kernel)) ggL_law_L_drop
set_option maxRecDepth 20000 in
theorem ggL_law_X4_drop : GoodIn wsL_law wsX4_drop := goodIn_r _ [405, 67, 32, 33, 31, 383, 384, 385, 5, 386, 351, 140, 141, 142, 69, 70, 71, 72, 578, 579, 580, 581, 582, 583, 584, 585, 586, 587, 588, 589, 590, 591, 592] (by decide +kernel) (by decide +kernel)
set_option maxRecDepth 20000 in
theorem gL_law_X4_drop : GoodIn wsL_law (wsV RL 139 RX4 yX4_drop wsX4_drop) := goodIn_app (goodIn_of _ (by decide +kernel)) ggL_law_X4_drop
set_option maxRecDepth 20000 in
theorem ggL_law_L_seen : GoodIn wsL_law wsL_seen := goodIn_ca (goodIn_r _ [408, 80, 409, 410, 411, 2, 412, 86, 87, 17, 359, 360, 361, 362, 346, 363, 364, 365, 94, 95, 96, 97, 98, 99, 301, 238, 239, 54, 240, 62, 109, 110, 111, 112, 113, 114, 115, 570, 571, 572, 573, 574, 575, 576, 577, 599, 600, 601, 602, 603, 598] (by decide +kernel) (by decide +kernel)) (goodIn_sub (fun _ h => List.mem_append_left _ (List.mem_append_right _ h)) (by decide +kernel))
set_option maxRecDepth 20000 in
theorem gL_law_L_seen : GoodIn wsL_law (va_wsS RL 140 yL_seen wsL_seen) := goodIn_app (goodIn_of _ (by decide +kernel)) ggL_law_L_seen
set_option maxRecDepth 20000 in
theorem ggL_law_X4_seen : GoodIn wsL_law wsX4_seen := goodIn_r _ [416, 67, 32, 30, 33, 383, 384, 385, 5, 386, 351, 140, 141, 142, 143, 144, 145, 69, 70, 71, 72, 266, 267, 268, 269, 270, 113, 114, 115, 306, 307, 308, 578, 579, 580, 581, 582, 583, 584, 585, 586, 587, 588, 589, 590, 591, 592] (by decide +kernel) (by decide +kernel)
set_option maxRecDepth 20000 in
theorem gL_law_X4_seen : GoodIn wsL_law (wsV RL 142 RX4 yX4_seen wsX4_seen) := goodIn_app (goodIn_of _ (by decide +kernel)) ggL_law_X4_seen
set_option maxRecDepth 20000 in
theorem ggL_law_L_count : GoodIn wsL_law wsL_count := goodIn_ca (goodIn_r _ [419, 80, 420, 421, 422, 2, 423, 86, 87, 424, 425, 426, 427, 120, 45, 224, 346, 428, 429, 430, 431, 14, 432, 433, 434, 435, 17, 436, 437, 438, 439, 440, 441, 442, 443, 444, 250, 251, 54, 252, 62, 237, 238, 239, 240, 109, 110, 111, 112, 113, 114, 115, 445, 446, 447, 448, 570, 571, 572, 573, 574, 575, 576, 577, 593, 594, 595, 596, 597, 599, 600, 601, 602, 603, 598] (by decide +kernel) (by decide +kernel)) (goodIn_sub (fun _ h => List.mem_append_left _ (List.mem_append_right _ h)) (by decide +kernel))
set_option maxRecDepth 20000 in
theorem gL_law_L_count : GoodIn wsL_law (va_wsS RL 143 yL_count wsL_count) := goodIn_app (goodIn_of _ (by decide +kernel)) ggL_law_L_count
set_option maxRecDepth 20000 in
theorem ggL_law_X4_count : GoodIn wsL_law wsX4_count := goodIn_r _ [452, 67, 140, 141, 5, 142, 453, 454, 455, 456, 68, 28, 25, 265, 31, 351, 24, 156, 457, 458, 459, 460, 461, 462, 463, 464, 32, 30, 33, 465, 466, 467, 266, 267, 268, 269, 270, 113, 114, 115, 69, 70, 71, 72, 578, 579, 580, 581, 582, 583, 584, 585, 586, 587, 588, 589, 590, 591, 592] (by decide +kernel) (by decide +kernel)
set_option maxRecDepth 20000 in
theorem gL_law_X4_count : GoodIn wsL_law (wsV RL 145 RX4 yX4_count wsX4_count) := goodIn_app (goodIn_of _ (by decide +kernel)) ggL_law_X4_count
set_option maxRecDepth 20000 in
theorem ggL_law_L_again : GoodIn wsL_law wsL_again := goodIn_ca (goodIn_r _ [470, 80, 471, 472, 473, 2, 474, 86, 87, 90, 91, 92, 93, 14, 297, 298, 299, 47, 300, 56, 227, 228, 229, 230, 182, 444, 250, 251, 54, 252, 62, 237, 238, 239, 240, 109, 110, 111, 112, 113, 114, 115, 593, 594, 595, 596, 597, 570, 571, 572, 573, 574, 575, 576, 577, 598] (by decide +kernel) (by decide +kernel)) (goodIn_sub (fun _ h => List.mem_append_left _ (List.mem_append_right _ h)) (by decide +kernel))
set_option maxRecDepth 20000 in
theorem gL_law_L_again : GoodIn wsL_law (va_wsS RL 146 yL_again wsL_again) := goodIn_app (goodIn_of _ (by decide +kernel)) ggL_law_L_again
set_option maxRecDepth 20000 in
theorem ggL_law_X4_again : GoodIn wsL_law wsX4_again := goodIn_r _ [478, 67, 25, 29, 26, 136, 137, 138, 5, 139, 68, 140, 141, 142, 69, 70, 71, 72, 465, 466, 467, 266, 267, 268, 269, 270, 113, 114, 115, 578, 579, 580, 581, 582, 583, 584, 585, 586, 587, 588, 589, 590, 591, 592] (by decide +kernel) (by decide +kernel)
set_option maxRecDepth 20000 in
theorem gL_law_X4_again : GoodIn wsL_law (wsV RL 148 RX4 yX4_again wsX4_again) := goodIn_app (goodIn_of _ (by decide +kernel)) ggL_law_X4_again
set_option maxRecDepth 20000 in
theorem ggL_law_L_turn : GoodIn wsL_law wsL_turn := goodIn_ca (goodIn_r _ [481, 80, 482, 483, 484, 2, 485, 86, 87, 316, 317, 318, 319, 16, 245, 246, 247, 54, 248, 249, 250, 251, 252, 62, 237, 238, 239, 240, 109, 110, 111, 112, 113, 114, 115, 599, 600, 601, 602, 603, 570, 571, 572, 573, 574, 575, 576, 577, 598] (by decide +kernel) (by decide +kernel)) (goodIn_sub (fun _ h => List.mem_append_left _ (List.mem_append_right _ h)) (by decide +kernel))
set_option maxRecDepth 20000 in
theorem gL_law_L_turn : GoodIn wsL_law (va_wsS RL 149 yL_turn wsL_turn) := goodIn_app (goodIn_of _ (by decide +kernel)) ggL_law_L_turn
set_option maxRecDepth 20000 in
theorem ggL_law_X4_turn : GoodIn wsL_law wsX4_turn := goodIn_r _ [489, 67, 324, 325, 326, 5, 327, 265, 140, 141, 142, 490, 491, 492, 493, 30, 465, 466, 467, 266, 267, 268, 269, 270, 113, 114, 115, 69, 70, 71, 72, 578, 579, 580, 581, 582, 583, 584, 585, 586, 587, 588, 589, 590, 591, 592] (by decide +kernel) (by decide +kernel)
set_option maxRecDepth 20000 in
theorem gL_law_X4_turn : GoodIn wsL_law (wsV RL 151 RX4 yX4_turn wsX4_turn) := goodIn_app (goodIn_of _ (by decide +kernel)) ggL_law_X4_turn
set_option maxRecDepth 20000 in
theorem ggL_law_L_cuts : GoodIn wsL_law wsL_cuts := goodIn_ca (goodIn_r _ [496, 80, 497, 498, 499, 2, 500, 86, 87, 90, 91, 92, 93, 14, 316, 317, 318, 319, 16, 227, 228, 229, 47, 230, 182, 444, 250, 251, 54, 252, 62, 237, 238, 239, 240, 109, 110, 111, 112, 113, 114, 115, 593, 594, 595, 596, 597, 599, 600, 601, 602, 603, 570, 571, 572, 573, 574, 575, 576, 577, 598] (by decide +kernel) (by decide +kernel)) (goodIn_sub (fun _ h => List.mem_append_left _ (List.mem_append_right _ h)) (by decide +kernel))
set_option maxRecDepth 20000 in
theorem gL_law_L_cuts : GoodIn wsL_law (va_wsS RL 152 yL_cuts wsL_cuts) := goodIn_app (goodIn_of _ (by decide +kernel)) ggL_law_L_cuts
set_option maxRecDepth 20000 in
theorem ggL_law_X4_cuts : GoodIn wsL_law wsX4_cuts := goodIn_r _ [504, 67, 25, 29, 26, 30, 136, 137, 138, 5, 139, 68, 140, 141, 142, 324, 325, 326, 327, 265, 69, 70, 71, 72, 465, 466, 467, 266, 267, 268, 269, 270, 113, 114, 115, 578, 579, 580, 581, 582, 583, 584, 585, 586, 587, 588, 589, 590, 591, 592] (by decide +kernel) (by decide +kernel)
set_option maxRecDepth 20000 in
theorem gL_law_X4_cuts : GoodIn wsL_law (wsV RL 154 RX4 yX4_cuts wsX4_cuts) := goodIn_app (goodIn_of _ (by decide +kernel)) ggL_law_X4_cuts
set_option maxRecDepth 20000 in
theorem ggL_law_L_mends : GoodIn wsL_law wsL_mends := goodIn_ca (goodIn_r _ [507, 80, 508, 509, 510, 2, 511, 86, 87, 17, 359, 360, 361, 362, 346, 512, 513, 514, 515, 224, 516, 517, 518, 519, 16, 366, 367, 368, 226, 369, 260, 440, 441, 442, 443, 444, 250, 251, 54, 252, 62, 237, 238, 239, 240, 109, 110, 111, 112, 113, 114, 115, 570, 571, 572, 573, 574, 575, 576, 577, 599, 600, 601, 602, 603, 598] (by decide +kernel) (by decide +kernel)) (goodIn_sub (fun _ h => List.mem_append_left _ (List.mem_append_right _ h)) (by decide +kernel))
set_option maxRecDepth 20000 in
theorem gL_law_L_mends : GoodIn wsL_law (va_wsS RL 155 yL_mends wsL_mends) := goodIn_app (goodIn_of _ (by decide +kernel)) ggL_law_L_mends
set_option maxRecDepth 20000 in
theorem ggL_law_X4_mends : GoodIn wsL_law wsX4_mends := goodIn_r _ [523, 67, 351, 32, 154, 126, 127, 128, 265, 31, 140, 141, 5, 142, 69, 70, 71, 72, 457, 458, 459, 460, 461, 462, 463, 464, 30, 33, 465, 466, 467, 266, 267, 268, 269, 270, 113, 114, 115, 524, 525, 526, 527, 490, 491, 492, 493, 578, 579, 580, 581, 582, 583, 584, 585, 586, 587, 588, 589, 590, 591, 592] (by decide +kernel) (by decide +kernel)
set_option maxRecDepth 20000 in
theorem gL_law_X4_mends : GoodIn wsL_law (wsV RL 157 RX4 yX4_mends wsX4_mends) := goodIn_app (goodIn_of _ (by decide +kernel)) ggL_law_X4_mends
set_option maxRecDepth 20000 in
theorem ggL_law_X3_mean : GoodIn wsL_law wsX3_mean := goodIn_r _ [531, 45, 205, 206, 207, 2, 208, 14, 570, 571, 572, 573, 574, 575, 576, 577, 593, 594, 595, 596, 597] (by decide +kernel) (by decide +kernel)
set_option maxRecDepth 20000 in
theorem gL_law_X3_mean : GoodIn wsL_law (wsV RL 158 RX3 yX3_mean wsX3_mean) := goodIn_app (goodIn_of _ (by decide +kernel)) ggL_law_X3_mean
set_option maxRecDepth 20000 in
theorem ggL_law_X4_mean : GoodIn wsL_law wsX4_mean := goodIn_r _ [535, 67, 68, 213, 214, 215, 5, 216, 27, 578, 579, 580, 581, 582, 583, 584, 585, 586, 587, 588, 589, 590, 591, 592] (by decide +kernel) (by decide +kernel)
set_option maxRecDepth 20000 in
theorem gL_law_X4_mean : GoodIn wsL_law (wsV RL 162 RX4 yX4_mean wsX4_mean) := goodIn_app (goodIn_of _ (by decide +kernel)) ggL_law_X4_mean
set_option maxRecDepth 20000 in
theorem ggL_law_X3_digest : GoodIn wsL_law wsX3_digest := goodIn_r _ [539, 540, 424, 425, 426, 2, 427, 120, 45, 224, 346, 428, 429, 430, 431, 14, 432, 433, 434, 435, 17, 436, 437, 438, 439, 440, 441, 442, 443, 444, 250, 251, 54, 252, 62, 237, 238, 239, 240, 109, 110, 111, 112, 113, 114, 115, 445, 446, 447, 448, 541, 542, 543, 544, 545, 546, 547, 548, 18, 278, 279, 280, 47, 281, 56, 182, 57, 104, 549, 550, 551, 552, 553, 554, 555, 16, 556, 557, 558, 559, 570, 571, 572, 573, 574, 575, 576, 577, 593, 594, 595, 596, 597, 599, 600, 601, 602, 603, 598] (by decide +kernel) (by decide +kernel)
set_option maxRecDepth 20000 in
theorem gL_law_X3_digest : GoodIn wsL_law (wsV RL 163 RX3 yX3_digest wsX3_digest) := goodIn_app (goodIn_of _ (by decide +kernel)) ggL_law_X3_digest
set_option maxRecDepth 20000 in
theorem ggL_law_X4_digest : GoodIn wsL_law wsX4_digest := goodIn_r _ [563, 67, 564, 565, 68, 29, 265, 30, 31, 351, 32, 33, 453, 454, 455, 5, 456, 28, 25, 24, 156, 457, 458, 459, 460, 461, 462, 463, 464, 465, 466, 467, 266, 267, 268, 269, 270, 113, 114, 115, 286, 287, 288, 289, 26, 27, 23, 566, 567, 568, 569, 306, 307, 308, 578, 579, 580, 581, 582, 583, 584, 585, 586, 587, 588, 589, 590, 591, 592] (by decide +kernel) (by decide +kernel)
set_option maxRecDepth 20000 in
theorem gL_law_X4_digest : GoodIn wsL_law (wsV RL 167 RX4 yX4_digest wsX4_digest) := goodIn_app (goodIn_of _ (by decide +kernel)) ggL_law_X4_digest
