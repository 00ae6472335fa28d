theorem dL_below_0 : decode cL_below 0 = .ok (.iload_n 0, 1) := by decide +kernel
theorem dL_below_1 : decode cL_below 1 = .ok (.ldc 7, 2) := by decide +kernel
theorem dL_below_3 : decode cL_below 3 = .ok (.iand, 1) := by decide +kernel
theorem dL_below_4 : decode cL_below 4 = .ok (.iload_n 1, 1) := by decide +kernel
theorem dL_below_5 : decode cL_below 5 = .ok (.irem, 1) := by decide +kernel
theorem dL_below_6 : decode cL_below 6 = .ok (.ireturn, 1) := by decide +kernel
theorem dL_cell_0 : decode cL_cell 0 = .ok (.iload_n 1, 1) := by decide +kernel
theorem dL_cell_1 : decode cL_cell 1 = .ok (.aload_n 0, 1) := by decide +kernel
theorem dL_cell_2 : decode cL_cell 2 = .ok (.arraylength, 1) := by decide +kernel
theorem dL_cell_3 : decode cL_cell 3 = .ok (.if_icmp .ge 9, 3) := by decide +kernel
theorem dL_cell_6 : decode cL_cell 6 = .ok (.aload_n 0, 1) := by decide +kernel
theorem dL_cell_7 : decode cL_cell 7 = .ok (.iload_n 1, 1) := by decide +kernel
theorem dL_cell_8 : decode cL_cell 8 = .ok (.iaload, 1) := by decide +kernel
theorem dL_cell_9 : decode cL_cell 9 = .ok (.goto 9, 3) := by decide +kernel
theorem dL_cell_12 : decode cL_cell 12 = .ok (.ldc 8, 2) := by decide +kernel
theorem dL_cell_14 : decode cL_cell 14 = .ok (.iload_n 1, 1) := by decide +kernel
theorem dL_cell_15 : decode cL_cell 15 = .ok (.iconst 3, 1) := by decide +kernel
theorem dL_cell_16 : decode cL_cell 16 = .ok (.iadd, 1) := by decide +kernel
theorem dL_cell_17 : decode cL_cell 17 = .ok (.imul, 1) := by decide +kernel
theorem dL_cell_18 : decode cL_cell 18 = .ok (.ireturn, 1) := by decide +kernel
set_option maxRecDepth 20000 in
theorem ggL_shop_X3_init : GoodIn wsL_shop wsX3_init := goodIn_r _ [6, 7, 8, 9, 10, 11, 12, 13, 14, 15, 241, 242, 243, 244, 245, 246, 247, 248] (by decide +kernel) (by decide +kernel)
set_option maxRecDepth 20000 in
theorem gL_shop_X3_init : GoodIn wsL_shop (wsX3_init) := ggL_shop_X3_init
set_option maxRecDepth 20000 in
theorem ggL_shop_L_cell : GoodIn wsL_shop wsL_cell := goodIn_r _ [19, 20] (by decide +kernel) (by decide +kernel)
set_option maxRecDepth 20000 in
theorem gL_shop_L_cell : GoodIn wsL_shop (va_wsS RL 12 yL_cell wsL_cell) := goodIn_app (goodIn_of _ (by decide +kernel)) ggL_shop_L_cell
set_option maxRecDepth 20000 in
theorem ggL_shop_L_below : GoodIn wsL_shop wsL_below := goodIn_r _ [23, 24] (by decide +kernel) (by decide +kernel)
set_option maxRecDepth 20000 in
theorem gL_shop_L_below : GoodIn wsL_shop (va_wsS RL 18 yL_below wsL_below) := goodIn_app (goodIn_of _ (by decide +kernel)) ggL_shop_L_below
set_option maxRecDepth 20000 in
theorem ggL_shop_X3_begin : GoodIn wsL_shop wsX3_begin := goodIn_ca (goodIn_r _ [28, 29, 30, 31, 11, 10, 32, 33, 34, 35, 36, 37, 8, 9, 38, 39, 40, 41, 42, 43, 44, 45, 46, 47, 48, 49, 241, 242, 243, 244, 245, 246, 247, 248, 249, 250, 251, 252, 253, 254] (by decide +kernel) (by decide +kernel)) (goodIn_sub (fun _ h => List.mem_cons_of_mem _ (List.mem_append_left _ (List.mem_append_left _ (List.mem_append_right _ h)))) (by decide +kernel))
set_option maxRecDepth 20000 in
theorem gL_shop_X3_begin : GoodIn wsL_shop (wsV RL 22 RX3 yX3_begin wsX3_begin) := goodIn_app (goodIn_of _ (by decide +kernel)) ggL_shop_X3_begin
set_option maxRecDepth 20000 in
theorem ggL_shop_X3_bead : GoodIn wsL_shop wsX3_bead := goodIn_ca (goodIn_r _ [53, 29, 30, 54, 241, 242, 243, 244, 245, 246, 247, 248] (by decide +kernel) (by decide +kernel)) (goodIn_sub (fun _ h => List.mem_cons_of_mem _ (List.mem_append_left _ (List.mem_append_left _ (List.mem_append_right _ h)))) (by decide +kernel))
set_option maxRecDepth 20000 in
theorem gL_shop_X3_bead : GoodIn wsL_shop (wsV RL 26 RX3 yX3_bead wsX3_bead) := goodIn_app (goodIn_of _ (by decide +kernel)) ggL_shop_X3_bead
set_option maxRecDepth 20000 in
theorem ggL_shop_L_work : GoodIn wsL_shop wsL_work := goodIn_ca (goodIn_ca (goodIn_ca (goodIn_r _ [57, 58, 21, 22, 18, 23, 24, 59, 60, 61, 3, 62, 63, 64, 65, 66, 29, 30, 67, 68, 69, 70, 11, 71, 72, 73, 74, 75, 76, 77, 78, 79, 33, 80, 43, 81, 82, 83, 84, 40, 85, 49, 86, 87, 88, 89, 90, 91, 92, 93, 94, 95, 96, 15, 97, 98, 99, 100, 101, 102, 103, 104, 105, 106, 107, 108, 109, 110, 111, 112, 113, 114, 115, 116, 117, 118, 119, 120, 121, 122, 123, 42, 124, 249, 250, 251, 252, 253, 241, 242, 243, 244, 245, 246, 247, 248, 254] (by decide +kernel) (by decide +kernel)) (goodIn_sub (fun _ h => List.mem_cons_of_mem _ (List.mem_append_left _ (List.mem_append_right _ h))) (by decide +kernel))) (goodIn_sub (fun _ h => List.mem_cons_of_mem _ (List.mem_append_right _ h)) (by decide +kernel))) (goodIn_sub (fun _ h => List.mem_cons_of_mem _ (List.mem_append_left _ (List.mem_append_left _ (List.mem_append_right _ h)))) (by decide +kernel))
set_option maxRecDepth 20000 in
theorem gL_shop_L_work : GoodIn wsL_shop (va_wsS RL 29 yL_work wsL_work) := goodIn_app (goodIn_of _ (by decide +kernel)) ggL_shop_L_work
set_option maxRecDepth 20000 in
theorem ggL_shop_X3_furnace : GoodIn wsL_shop wsX3_furnace := goodIn_ca (goodIn_r _ [128, 63, 64, 15, 67, 68, 69, 3, 70, 11, 241, 242, 243, 244, 245, 246, 247, 248] (by decide +kernel) (by decide +kernel)) (goodIn_sub (fun _ h => List.mem_cons_of_mem _ (List.mem_append_left _ (List.mem_append_right _ h))) (by decide +kernel))
set_option maxRecDepth 20000 in
theorem gL_shop_X3_furnace : GoodIn wsL_shop (wsV RL 33 RX3 yX3_furnace wsX3_furnace) := goodIn_app (goodIn_of _ (by decide +kernel)) ggL_shop_X3_furnace
set_option maxRecDepth 20000 in
theorem ggL_shop_X3_rest : GoodIn wsL_shop wsX3_rest := goodIn_ca (goodIn_r _ [132, 65, 66, 93, 94, 95, 3, 96, 11, 15, 97, 98, 99, 100, 33, 101, 43, 102, 103, 104, 105, 106, 107, 108, 133, 134, 135, 136, 241, 242, 243, 244, 245, 246, 247, 248, 249, 250, 251, 252, 253] (by decide +kernel) (by decide +kernel)) (goodIn_sub (fun _ h => List.mem_cons_of_mem _ (List.mem_append_right _ h)) (by decide +kernel))
set_option maxRecDepth 20000 in
theorem gL_shop_X3_rest : GoodIn wsL_shop (wsV RL 37 RX3 yX3_rest wsX3_rest) := goodIn_app (goodIn_of _ (by decide +kernel)) ggL_shop_X3_rest
set_option maxRecDepth 20000 in
theorem ggL_shop_L_cut : GoodIn wsL_shop wsL_cut := goodIn_ca (goodIn_ca (goodIn_r _ [139, 58, 140, 141, 142, 3, 143, 63, 64, 29, 30, 144, 13, 12, 145, 146, 67, 68, 69, 70, 11, 147, 148, 149, 33, 150, 124, 151, 152, 153, 40, 154, 155, 39, 49, 156, 45, 46, 47, 8, 9, 48, 157, 158, 159, 160, 86, 87, 88, 89, 90, 91, 92, 161, 162, 163, 164, 165, 166, 167, 168, 169, 170, 171, 172, 173, 174, 175, 176, 177, 178, 179, 180, 249, 250, 251, 252, 253, 241, 242, 243, 244, 245, 246, 247, 248, 255, 256, 257, 258, 259, 254] (by decide +kernel) (by decide +kernel)) (goodIn_sub (fun _ h => List.mem_cons_of_mem _ (List.mem_append_left _ (List.mem_append_right _ h))) (by decide +kernel))) (goodIn_sub (fun _ h => List.mem_cons_of_mem _ (List.mem_append_left _ (List.mem_append_left _ (List.mem_append_right _ h)))) (by decide +kernel))
set_option maxRecDepth 20000 in
theorem gL_shop_L_cut : GoodIn wsL_shop (va_wsS RL 40 yL_cut wsL_cut) := goodIn_app (goodIn_of _ (by decide +kernel)) ggL_shop_L_cut
set_option maxRecDepth 20000 in
theorem ggL_shop_X3_count : GoodIn wsL_shop wsX3_count := goodIn_ca (goodIn_r _ [184, 63, 64, 185, 186, 187, 3, 188, 97, 31, 144, 54, 189, 190, 191, 192, 11, 193, 194, 195, 196, 14, 197, 198, 199, 200, 201, 202, 203, 204, 205, 170, 171, 40, 172, 49, 157, 158, 159, 160, 86, 87, 88, 89, 90, 91, 92, 206, 207, 208, 209, 241, 242, 243, 244, 245, 246, 247, 248, 249, 250, 251, 252, 253, 255, 256, 257, 258, 259, 254] (by decide +kernel) (by decide +kernel)) (goodIn_sub (fun _ h => List.mem_cons_of_mem _ (List.mem_append_left _ (List.mem_append_right _ h))) (by decide +kernel))
set_option maxRecDepth 20000 in
theorem gL_shop_X3_count : GoodIn wsL_shop (wsV RL 44 RX3 yX3_count wsX3_count) := goodIn_app (goodIn_of _ (by decide +kernel)) ggL_shop_X3_count
set_option maxRecDepth 20000 in
theorem ggL_shop_L_set : GoodIn wsL_shop wsL_set := goodIn_ca (goodIn_ca (goodIn_ca (goodIn_r _ [212, 58, 213, 214, 215, 3, 216, 63, 64, 65, 66, 29, 30, 14, 217, 218, 219, 220, 13, 221, 222, 223, 224, 54, 225, 226, 227, 74, 75, 76, 228, 229, 230, 146, 231, 180, 232, 233, 234, 235, 236, 237, 238, 239, 240, 241, 242, 243, 244, 245, 246, 247, 248, 255, 256, 257, 258, 259] (by decide +kernel) (by decide +kernel)) (goodIn_sub (fun _ h => List.mem_cons_of_mem _ (List.mem_append_left _ (List.mem_append_right _ h))) (by decide +kernel))) (goodIn_sub (fun _ h => List.mem_cons_of_mem _ (List.mem_append_right _ h)) (by decide +kernel))) (goodIn_sub (fun _ h => List.mem_cons_of_mem _ (List.mem_append_left _ (List.mem_append_left _ (List.mem_append_right _ h)))) (by decide +kernel))
set_option maxRecDepth 20000 in
theorem gL_shop_L_set : GoodIn wsL_shop (va_wsS RL 47 yL_set wsL_set) := goodIn_app (goodIn_of _ (by decide +kernel)) ggL_shop_L_set
theorem dL_shop_0 : decode cL_shop 0 = .ok (.new 9, 3) := by decide +kernel
theorem dL_shop_3 : decode cL_shop 3 = .ok (.dup, 1) := by decide +kernel
theorem dL_shop_4 : decode cL_shop 4 = .ok (.invokespecial 11, 3) := by decide +kernel
theorem dL_shop_7 : decode cL_shop 7 = .ok (.astore_n 1, 1) := by decide +kernel
theorem dL_shop_8 : decode cL_shop 8 = .ok (.iconst 1, 1) := by decide +kernel
theorem dL_shop_9 : decode cL_shop 9 = .ok (.aload_n 0, 1) := by decide +kernel
theorem dL_shop_10 : decode cL_shop 10 = .ok (.iconst 0, 1) := by decide +kernel
theorem dL_shop_11 : decode cL_shop 11 = .ok (.invokestatic 12, 3) := by decide +kernel
theorem dL_shop_14 : decode cL_shop 14 = .ok (.bipush 8, 2) := by decide +kernel
theorem dL_shop_16 : decode cL_shop 16 = .ok (.invokestatic 18, 3) := by decide +kernel
theorem dL_shop_19 : decode cL_shop 19 = .ok (.iadd, 1) := by decide +kernel
theorem dL_shop_20 : decode cL_shop 20 = .ok (.istore_n 2, 1) := by decide +kernel
theorem dL_shop_21 : decode cL_shop 21 = .ok (.iconst 0, 1) := by decide +kernel
theorem dL_shop_22 : decode cL_shop 22 = .ok (.istore_n 3, 1) := by decide +kernel
theorem dL_shop_23 : decode cL_shop 23 = .ok (.iload_n 3, 1) := by decide +kernel
theorem dL_shop_24 : decode cL_shop 24 = .ok (.iload_n 2, 1) := by decide +kernel
theorem dL_shop_25 : decode cL_shop 25 = .ok (.if_icmp .ge 14, 3) := by decide +kernel
theorem dL_shop_28 : decode cL_shop 28 = .ok (.aload_n 1, 1) := by decide +kernel
theorem dL_shop_29 : decode cL_shop 29 = .ok (.invokevirtual 22, 3) := by decide +kernel
theorem dL_shop_32 : decode cL_shop 32 = .ok (.pop, 1) := by decide +kernel
theorem dL_shop_33 : decode cL_shop 33 = .ok (.iinc 3 1, 3) := by decide +kernel
theorem dL_shop_36 : decode cL_shop 36 = .ok (.goto (-13), 3) := by decide +kernel
theorem dL_shop_39 : decode cL_shop 39 = .ok (.aload_n 0, 1) := by decide +kernel
theorem dL_shop_40 : decode cL_shop 40 = .ok (.iconst 1, 1) := by decide +kernel
theorem dL_shop_41 : decode cL_shop 41 = .ok (.invokestatic 12, 3) := by decide +kernel
theorem dL_shop_44 : decode cL_shop 44 = .ok (.bipush 7, 2) := by decide +kernel
theorem dL_shop_46 : decode cL_shop 46 = .ok (.invokestatic 18, 3) := by decide +kernel
theorem dL_shop_49 : decode cL_shop 49 = .ok (.istore_n 3, 1) := by decide +kernel
theorem dL_shop_50 : decode cL_shop 50 = .ok (.iconst 0, 1) := by decide +kernel
theorem dL_shop_51 : decode cL_shop 51 = .ok (.istore 4, 2) := by decide +kernel
theorem dL_shop_53 : decode cL_shop 53 = .ok (.iload 4, 2) := by decide +kernel
theorem dL_shop_55 : decode cL_shop 55 = .ok (.iload_n 3, 1) := by decide +kernel
theorem dL_shop_56 : decode cL_shop 56 = .ok (.if_icmp .ge 14, 3) := by decide +kernel
theorem dL_shop_59 : decode cL_shop 59 = .ok (.aload_n 1, 1) := by decide +kernel
theorem dL_shop_60 : decode cL_shop 60 = .ok (.invokevirtual 26, 3) := by decide +kernel
theorem dL_shop_63 : decode cL_shop 63 = .ok (.pop, 1) := by decide +kernel
theorem dL_shop_64 : decode cL_shop 64 = .ok (.iinc 4 1, 3) := by decide +kernel
theorem dL_shop_67 : decode cL_shop 67 = .ok (.goto (-14), 3) := by decide +kernel
theorem dL_shop_70 : decode cL_shop 70 = .ok (.iconst 0, 1) := by decide +kernel
theorem dL_shop_71 : decode cL_shop 71 = .ok (.istore 4, 2) := by decide +kernel
theorem dL_shop_73 : decode cL_shop 73 = .ok (.iload 4, 2) := by decide +kernel
theorem dL_shop_75 : decode cL_shop 75 = .ok (.bipush 40, 2) := by decide +kernel
theorem dL_shop_77 : decode cL_shop 77 = .ok (.if_icmp .ge 302, 3) := by decide +kernel
theorem dL_shop_80 : decode cL_shop 80 = .ok (.aload_n 0, 1) := by decide +kernel
theorem dL_shop_81 : decode cL_shop 81 = .ok (.iconst 2, 1) := by decide +kernel
theorem dL_shop_82 : decode cL_shop 82 = .ok (.iload 4, 2) := by decide +kernel
theorem dL_shop_84 : decode cL_shop 84 = .ok (.bipush 13, 2) := by decide +kernel
theorem dL_shop_86 : decode cL_shop 86 = .ok (.irem, 1) := by decide +kernel
theorem dL_shop_87 : decode cL_shop 87 = .ok (.iadd, 1) := by decide +kernel
theorem dL_shop_88 : decode cL_shop 88 = .ok (.invokestatic 12, 3) := by decide +kernel
theorem dL_shop_91 : decode cL_shop 91 = .ok (.iload 4, 2) := by decide +kernel
theorem dL_shop_93 : decode cL_shop 93 = .ok (.bipush 13, 2) := by decide +kernel
theorem dL_shop_95 : decode cL_shop 95 = .ok (.idiv, 1) := by decide +kernel
theorem dL_shop_96 : decode cL_shop 96 = .ok (.iconst 5, 1) := by decide +kernel
theorem dL_shop_97 : decode cL_shop 97 = .ok (.imul, 1) := by decide +kernel
theorem dL_shop_98 : decode cL_shop 98 = .ok (.ishr, 1) := by decide +kernel
theorem dL_shop_99 : decode cL_shop 99 = .ok (.bipush 29, 2) := by decide +kernel
theorem dL_shop_101 : decode cL_shop 101 = .ok (.iload 4, 2) := by decide +kernel
theorem dL_shop_103 : decode cL_shop 103 = .ok (.imul, 1) := by decide +kernel
theorem dL_shop_104 : decode cL_shop 104 = .ok (.iadd, 1) := by decide +kernel
theorem dL_shop_105 : decode cL_shop 105 = .ok (.istore 5, 2) := by decide +kernel
theorem dL_shop_107 : decode cL_shop 107 = .ok (.iload 5, 2) := by decide +kernel
theorem dL_shop_109 : decode cL_shop 109 = .ok (.iconst 2, 1) := by decide +kernel
theorem dL_shop_110 : decode cL_shop 110 = .ok (.ishr, 1) := by decide +kernel
theorem dL_shop_111 : decode cL_shop 111 = .ok (.iload_n 2, 1) := by decide +kernel
theorem dL_shop_112 : decode cL_shop 112 = .ok (.invokestatic 18, 3) := by decide +kernel
theorem dL_shop_115 : decode cL_shop 115 = .ok (.istore 6, 2) := by decide +kernel
theorem dL_shop_117 : decode cL_shop 117 = .ok (.iload 5, 2) := by decide +kernel
theorem dL_shop_119 : decode cL_shop 119 = .ok (.bipush 6, 2) := by decide +kernel
theorem dL_shop_121 : decode cL_shop 121 = .ok (.ishr, 1) := by decide +kernel
theorem dL_shop_122 : decode cL_shop 122 = .ok (.bipush 12, 2) := by decide +kernel
theorem dL_shop_124 : decode cL_shop 124 = .ok (.invokestatic 18, 3) := by decide +kernel
theorem dL_shop_127 : decode cL_shop 127 = .ok (.tableswitch 160 0 10 #[57, 57, 70, 70, 83, 96, 114, 114, 131, 131, 131], 57) := by decide +kernel
theorem dL_shop_184 : decode cL_shop 184 = .ok (.aload_n 1, 1) := by decide +kernel
theorem dL_shop_185 : decode cL_shop 185 = .ok (.iload 6, 2) := by decide +kernel
theorem dL_shop_187 : decode cL_shop 187 = .ok (.iconst 0, 1) := by decide +kernel
theorem dL_shop_188 : decode cL_shop 188 = .ok (.iload 5, 2) := by decide +kernel
theorem dL_shop_190 : decode cL_shop 190 = .ok (.invokestatic 29, 3) := by decide +kernel
theorem dL_shop_193 : decode cL_shop 193 = .ok (.pop, 1) := by decide +kernel
theorem dL_shop_194 : decode cL_shop 194 = .ok (.goto 179, 3) := by decide +kernel
theorem dL_shop_197 : decode cL_shop 197 = .ok (.aload_n 1, 1) := by decide +kernel
theorem dL_shop_198 : decode cL_shop 198 = .ok (.iload 6, 2) := by decide +kernel
theorem dL_shop_200 : decode cL_shop 200 = .ok (.iconst 1, 1) := by decide +kernel
theorem dL_shop_201 : decode cL_shop 201 = .ok (.iload 5, 2) := by decide +kernel
theorem dL_shop_203 : decode cL_shop 203 = .ok (.invokestatic 29, 3) := by decide +kernel
theorem dL_shop_206 : decode cL_shop 206 = .ok (.pop, 1) := by decide +kernel
theorem dL_shop_207 : decode cL_shop 207 = .ok (.goto 166, 3) := by decide +kernel
theorem dL_shop_210 : decode cL_shop 210 = .ok (.aload_n 1, 1) := by decide +kernel
theorem dL_shop_211 : decode cL_shop 211 = .ok (.iload 6, 2) := by decide +kernel
theorem dL_shop_213 : decode cL_shop 213 = .ok (.iconst 2, 1) := by decide +kernel
theorem dL_shop_214 : decode cL_shop 214 = .ok (.iload 5, 2) := by decide +kernel
theorem dL_shop_216 : decode cL_shop 216 = .ok (.invokestatic 29, 3) := by decide +kernel
theorem dL_shop_219 : decode cL_shop 219 = .ok (.pop, 1) := by decide +kernel
theorem dL_shop_220 : decode cL_shop 220 = .ok (.goto 153, 3) := by decide +kernel
theorem dL_shop_223 : decode cL_shop 223 = .ok (.aload_n 1, 1) := by decide +kernel
theorem dL_shop_224 : decode cL_shop 224 = .ok (.iload 5, 2) := by decide +kernel
theorem dL_shop_226 : decode cL_shop 226 = .ok (.iload_n 2, 1) := by decide +kernel
theorem dL_shop_227 : decode cL_shop 227 = .ok (.iconst 1, 1) := by decide +kernel
theorem dL_shop_228 : decode cL_shop 228 = .ok (.iadd, 1) := by decide +kernel
theorem dL_shop_229 : decode cL_shop 229 = .ok (.invokestatic 18, 3) := by decide +kernel
theorem dL_shop_232 : decode cL_shop 232 = .ok (.iconst 1, 1) := by decide +kernel
theorem dL_shop_233 : decode cL_shop 233 = .ok (.isub, 1) := by decide +kernel
theorem dL_shop_234 : decode cL_shop 234 = .ok (.invokevirtual 33, 3) := by decide +kernel
theorem dL_shop_237 : decode cL_shop 237 = .ok (.pop, 1) := by decide +kernel
theorem dL_shop_238 : decode cL_shop 238 = .ok (.goto 135, 3) := by decide +kernel
theorem dL_shop_241 : decode cL_shop 241 = .ok (.aload_n 1, 1) := by decide +kernel
theorem dL_shop_242 : decode cL_shop 242 = .ok (.iconst 1, 1) := by decide +kernel
theorem dL_shop_243 : decode cL_shop 243 = .ok (.iload 5, 2) := by decide +kernel
theorem dL_shop_245 : decode cL_shop 245 = .ok (.bipush 6, 2) := by decide +kernel
theorem dL_shop_247 : decode cL_shop 247 = .ok (.invokestatic 18, 3) := by decide +kernel
theorem dL_shop_250 : decode cL_shop 250 = .ok (.iadd, 1) := by decide +kernel
theorem dL_shop_251 : decode cL_shop 251 = .ok (.invokevirtual 37, 3) := by decide +kernel
theorem dL_shop_254 : decode cL_shop 254 = .ok (.pop, 1) := by decide +kernel
theorem dL_shop_255 : decode cL_shop 255 = .ok (.goto 118, 3) := by decide +kernel
theorem dL_shop_258 : decode cL_shop 258 = .ok (.iload 5, 2) := by decide +kernel
theorem dL_shop_260 : decode cL_shop 260 = .ok (.iconst 4, 1) := by decide +kernel
theorem dL_shop_261 : decode cL_shop 261 = .ok (.invokestatic 18, 3) := by decide +kernel
theorem dL_shop_264 : decode cL_shop 264 = .ok (.istore 7, 2) := by decide +kernel
theorem dL_shop_266 : decode cL_shop 266 = .ok (.iload 7, 2) := by decide +kernel
theorem dL_shop_268 : decode cL_shop 268 = .ok (.ifCond .lt 16, 3) := by decide +kernel
theorem dL_shop_271 : decode cL_shop 271 = .ok (.aload_n 1, 1) := by decide +kernel
theorem dL_shop_272 : decode cL_shop 272 = .ok (.iload 6, 2) := by decide +kernel
theorem dL_shop_274 : decode cL_shop 274 = .ok (.invokestatic 40, 3) := by decide +kernel
theorem dL_shop_277 : decode cL_shop 277 = .ok (.pop, 1) := by decide +kernel
theorem dL_shop_278 : decode cL_shop 278 = .ok (.iinc 7 (-1), 3) := by decide +kernel
theorem dL_shop_281 : decode cL_shop 281 = .ok (.goto (-15), 3) := by decide +kernel
theorem dL_shop_284 : decode cL_shop 284 = .ok (.goto 89, 3) := by decide +kernel
theorem dL_shop_287 : decode cL_shop 287 = .ok (.iload_n 3, 1) := by decide +kernel
theorem dL_shop_288 : decode cL_shop 288 = .ok (.ifCond .eq 85, 3) := by decide +kernel
theorem dL_shop_291 : decode cL_shop 291 = .ok (.aload_n 1, 1) := by decide +kernel
theorem dL_shop_292 : decode cL_shop 292 = .ok (.iconst 3, 1) := by decide +kernel
theorem dL_shop_293 : decode cL_shop 293 = .ok (.invokevirtual 44, 3) := by decide +kernel
theorem dL_shop_296 : decode cL_shop 296 = .ok (.ifCond .ne 6, 3) := by decide +kernel
theorem dL_shop_299 : decode cL_shop 299 = .ok (.goto 74, 3) := by decide +kernel
theorem dL_shop_302 : decode cL_shop 302 = .ok (.iconst 0, 1) := by decide +kernel
theorem dL_shop_303 : decode cL_shop 303 = .ok (.istore 7, 2) := by decide +kernel
theorem dL_shop_305 : decode cL_shop 305 = .ok (.iload 7, 2) := by decide +kernel
theorem dL_shop_307 : decode cL_shop 307 = .ok (.iconst 4, 1) := by decide +kernel
theorem dL_shop_308 : decode cL_shop 308 = .ok (.if_icmp .ge 65, 3) := by decide +kernel
theorem dL_shop_311 : decode cL_shop 311 = .ok (.aload_n 1, 1) := by decide +kernel
theorem dL_shop_312 : decode cL_shop 312 = .ok (.iload 5, 2) := by decide +kernel
theorem dL_shop_314 : decode cL_shop 314 = .ok (.iload 7, 2) := by decide +kernel
theorem dL_shop_316 : decode cL_shop 316 = .ok (.ishr, 1) := by decide +kernel
theorem dL_shop_317 : decode cL_shop 317 = .ok (.iload_n 3, 1) := by decide +kernel
theorem dL_shop_318 : decode cL_shop 318 = .ok (.invokestatic 18, 3) := by decide +kernel
theorem dL_shop_321 : decode cL_shop 321 = .ok (.iload 7, 2) := by decide +kernel
theorem dL_shop_323 : decode cL_shop 323 = .ok (.iload 5, 2) := by decide +kernel
theorem dL_shop_325 : decode cL_shop 325 = .ok (.iconst 2, 1) := by decide +kernel
theorem dL_shop_326 : decode cL_shop 326 = .ok (.iload 7, 2) := by decide +kernel
theorem dL_shop_328 : decode cL_shop 328 = .ok (.imul, 1) := by decide +kernel
theorem dL_shop_329 : decode cL_shop 329 = .ok (.ishr, 1) := by decide +kernel
theorem dL_shop_330 : decode cL_shop 330 = .ok (.aload_n 1, 1) := by decide +kernel
theorem dL_shop_331 : decode cL_shop 331 = .ok (.iconst 3, 1) := by decide +kernel
theorem dL_shop_332 : decode cL_shop 332 = .ok (.invokevirtual 44, 3) := by decide +kernel
theorem dL_shop_335 : decode cL_shop 335 = .ok (.invokestatic 18, 3) := by decide +kernel
theorem dL_shop_338 : decode cL_shop 338 = .ok (.iload 5, 2) := by decide +kernel
theorem dL_shop_340 : decode cL_shop 340 = .ok (.iconst 3, 1) := by decide +kernel
theorem dL_shop_341 : decode cL_shop 341 = .ok (.ishr, 1) := by decide +kernel
theorem dL_shop_342 : decode cL_shop 342 = .ok (.iconst 4, 1) := by decide +kernel
theorem dL_shop_343 : decode cL_shop 343 = .ok (.invokestatic 18, 3) := by decide +kernel
theorem dL_shop_346 : decode cL_shop 346 = .ok (.ifCond .ne 16, 3) := by decide +kernel
theorem dL_shop_349 : decode cL_shop 349 = .ok (.iload 5, 2) := by decide +kernel
theorem dL_shop_351 : decode cL_shop 351 = .ok (.iload 7, 2) := by decide +kernel
theorem dL_shop_353 : decode cL_shop 353 = .ok (.ishr, 1) := by decide +kernel
theorem dL_shop_354 : decode cL_shop 354 = .ok (.bipush 8, 2) := by decide +kernel
theorem dL_shop_356 : decode cL_shop 356 = .ok (.invokestatic 18, 3) := by decide +kernel
theorem dL_shop_359 : decode cL_shop 359 = .ok (.goto 4, 3) := by decide +kernel
theorem dL_shop_362 : decode cL_shop 362 = .ok (.iconst 0, 1) := by decide +kernel
theorem dL_shop_363 : decode cL_shop 363 = .ok (.invokestatic 47, 3) := by decide +kernel
theorem dL_shop_366 : decode cL_shop 366 = .ok (.pop, 1) := by decide +kernel
theorem dL_shop_367 : decode cL_shop 367 = .ok (.iinc 7 1, 3) := by decide +kernel
theorem dL_shop_370 : decode cL_shop 370 = .ok (.goto (-65), 3) := by decide +kernel
theorem dL_shop_373 : decode cL_shop 373 = .ok (.iinc 4 1, 3) := by decide +kernel
theorem dL_shop_376 : decode cL_shop 376 = .ok (.goto (-303), 3) := by decide +kernel
theorem dL_shop_379 : decode cL_shop 379 = .ok (.aload_n 1, 1) := by decide +kernel
theorem dL_shop_380 : decode cL_shop 380 = .ok (.areturn, 1) := by decide +kernel
set_option maxRecDepth 20000 in
theorem ggL_work_L_below : GoodIn wsL_work wsL_below := goodIn_r _ [5, 6] (by decide +kernel) (by decide +kernel)
set_option maxRecDepth 20000 in
theorem gL_work_L_below : GoodIn wsL_work (va_wsS RL 18 yL_below wsL_below) := goodIn_app (goodIn_of _ (by decide +kernel)) ggL_work_L_below
set_option maxRecDepth 20000 in
theorem ggL_work_X3_lay : GoodIn wsL_work wsX3_lay := goodIn_ca (goodIn_ca (goodIn_ca (goodIn_r _ [11, 12, 13, 14, 15, 16, 17, 18, 19, 20, 10, 21, 22, 23, 24, 25, 26, 27, 28, 29, 30, 31, 32, 33, 34, 35, 36, 37, 38, 39, 40, 41, 42, 43, 44, 45, 46, 47, 48, 49, 50, 51, 52, 53, 54, 55, 56, 57, 58, 59, 60, 61, 62, 63, 64, 65, 83, 84, 85, 86, 87, 88, 89, 90, 91, 92, 93, 94, 95, 96] (by decide +kernel) (by decide +kernel)) (goodIn_sub (fun _ h => List.mem_cons_of_mem _ (List.mem_append_left _ (List.mem_append_left _ (List.mem_append_right _ h)))) (by decide +kernel))) (goodIn_sub (fun _ h => List.mem_cons_of_mem _ (List.mem_append_left _ (List.mem_append_right _ h))) (by decide +kernel))) (goodIn_sub (fun _ h => List.mem_cons_of_mem _ (List.mem_append_right _ h)) (by decide +kernel))
set_option maxRecDepth 20000 in
theorem gL_work_X3_lay : GoodIn wsL_work (wsV RL 51 RX3 yX3_lay wsX3_lay) := goodIn_app (goodIn_of _ (by decide +kernel)) ggL_work_X3_lay
set_option maxRecDepth 20000 in
theorem ggL_work_X3_twist : GoodIn wsL_work wsX3_twist := goodIn_ca (goodIn_ca (goodIn_ca (goodIn_r _ [69, 12, 13, 14, 15, 16, 17, 18, 19, 20, 10, 21, 22, 70, 71, 72, 29, 30, 31, 32, 33, 34, 35, 49, 50, 51, 52, 53, 54, 55, 56, 57, 58, 59, 60, 61, 62, 63, 64, 65, 83, 84, 85, 86, 87, 88, 89, 90, 91, 92, 93, 94, 95] (by decide +kernel) (by decide +kernel)) (goodIn_sub (fun _ h => List.mem_cons_of_mem _ (List.mem_append_left _ (List.mem_append_left _ (List.mem_append_right _ h)))) (by decide +kernel))) (goodIn_sub (fun _ h => List.mem_cons_of_mem _ (List.mem_append_left _ (List.mem_append_right _ h))) (by decide +kernel))) (goodIn_sub (fun _ h => List.mem_cons_of_mem _ (List.mem_append_right _ h)) (by decide +kernel))
set_option maxRecDepth 20000 in
theorem gL_work_X3_twist : GoodIn wsL_work (wsV RL 55 RX3 yX3_twist wsX3_twist) := goodIn_app (goodIn_of _ (by decide +kernel)) ggL_work_X3_twist
set_option maxRecDepth 20000 in
theorem ggL_work_X3_pull : GoodIn wsL_work wsX3_pull := goodIn_ca (goodIn_ca (goodIn_r _ [76, 12, 13, 16, 17, 18, 19, 20, 10, 21, 22, 29, 30, 31, 32, 33, 34, 35, 77, 78, 79, 80, 81, 59, 60, 61, 62, 82, 49, 50, 51, 52, 53, 54, 55, 56, 57, 58, 63, 64, 65, 83, 84, 85, 86, 87, 88, 89, 90, 91, 92, 93, 94, 95] (by decide +kernel) (by decide +kernel)) (goodIn_sub (fun _ h => List.mem_cons_of_mem _ (List.mem_append_left _ (List.mem_append_left _ (List.mem_append_right _ h)))) (by decide +kernel))) (goodIn_sub (fun _ h => List.mem_cons_of_mem _ (List.mem_append_right _ h)) (by decide +kernel))
set_option maxRecDepth 20000 in
theorem gL_work_X3_pull : GoodIn wsL_work (wsV RL 59 RX3 yX3_pull wsX3_pull) := goodIn_app (goodIn_of _ (by decide +kernel)) ggL_work_X3_pull
theorem dL_work_0 : decode cL_work 0 = .ok (.iload_n 2, 1) := by decide +kernel
theorem dL_work_1 : decode cL_work 1 = .ok (.ifCond .ne 42, 3) := by decide +kernel
theorem dL_work_4 : decode cL_work 4 = .ok (.aload_n 0, 1) := by decide +kernel
theorem dL_work_5 : decode cL_work 5 = .ok (.iload_n 1, 1) := by decide +kernel
theorem dL_work_6 : decode cL_work 6 = .ok (.iload_n 3, 1) := by decide +kernel
theorem dL_work_7 : decode cL_work 7 = .ok (.iconst 3, 1) := by decide +kernel
theorem dL_work_8 : decode cL_work 8 = .ok (.invokestatic 18, 3) := by decide +kernel
theorem dL_work_11 : decode cL_work 11 = .ok (.iload_n 3, 1) := by decide +kernel
theorem dL_work_12 : decode cL_work 12 = .ok (.iconst 2, 1) := by decide +kernel
theorem dL_work_13 : decode cL_work 13 = .ok (.ishr, 1) := by decide +kernel
theorem dL_work_14 : decode cL_work 14 = .ok (.bipush 8, 2) := by decide +kernel
theorem dL_work_16 : decode cL_work 16 = .ok (.invokestatic 18, 3) := by decide +kernel
theorem dL_work_19 : decode cL_work 19 = .ok (.iconst 1, 1) := by decide +kernel
theorem dL_work_20 : decode cL_work 20 = .ok (.iload_n 3, 1) := by decide +kernel
theorem dL_work_21 : decode cL_work 21 = .ok (.iconst 4, 1) := by decide +kernel
theorem dL_work_22 : decode cL_work 22 = .ok (.ishr, 1) := by decide +kernel
theorem dL_work_23 : decode cL_work 23 = .ok (.bipush 8, 2) := by decide +kernel
theorem dL_work_25 : decode cL_work 25 = .ok (.invokestatic 18, 3) := by decide +kernel
theorem dL_work_28 : decode cL_work 28 = .ok (.iadd, 1) := by decide +kernel
theorem dL_work_29 : decode cL_work 29 = .ok (.iload_n 3, 1) := by decide +kernel
theorem dL_work_30 : decode cL_work 30 = .ok (.iconst 3, 1) := by decide +kernel
theorem dL_work_31 : decode cL_work 31 = .ok (.ishr, 1) := by decide +kernel
theorem dL_work_32 : decode cL_work 32 = .ok (.bipush 8, 2) := by decide +kernel
theorem dL_work_34 : decode cL_work 34 = .ok (.invokestatic 18, 3) := by decide +kernel
theorem dL_work_37 : decode cL_work 37 = .ok (.invokevirtual 51, 3) := by decide +kernel
theorem dL_work_40 : decode cL_work 40 = .ok (.goto 45, 3) := by decide +kernel
theorem dL_work_43 : decode cL_work 43 = .ok (.iload_n 2, 1) := by decide +kernel
theorem dL_work_44 : decode cL_work 44 = .ok (.iconst 1, 1) := by decide +kernel
theorem dL_work_45 : decode cL_work 45 = .ok (.if_icmp .ne 35, 3) := by decide +kernel
theorem dL_work_48 : decode cL_work 48 = .ok (.aload_n 0, 1) := by decide +kernel
theorem dL_work_49 : decode cL_work 49 = .ok (.iload_n 1, 1) := by decide +kernel
theorem dL_work_50 : decode cL_work 50 = .ok (.iload_n 3, 1) := by decide +kernel
theorem dL_work_51 : decode cL_work 51 = .ok (.bipush 8, 2) := by decide +kernel
theorem dL_work_53 : decode cL_work 53 = .ok (.invokestatic 18, 3) := by decide +kernel
theorem dL_work_56 : decode cL_work 56 = .ok (.iconst 4, 1) := by decide +kernel
theorem dL_work_57 : decode cL_work 57 = .ok (.isub, 1) := by decide +kernel
theorem dL_work_58 : decode cL_work 58 = .ok (.iload_n 3, 1) := by decide +kernel
theorem dL_work_59 : decode cL_work 59 = .ok (.bipush 8, 2) := by decide +kernel
theorem dL_work_61 : decode cL_work 61 = .ok (.invokestatic 18, 3) := by decide +kernel
theorem dL_work_64 : decode cL_work 64 = .ok (.iconst 3, 1) := by decide +kernel
theorem dL_work_65 : decode cL_work 65 = .ok (.if_icmp .le 7, 3) := by decide +kernel
theorem dL_work_68 : decode cL_work 68 = .ok (.iconst 1, 1) := by decide +kernel
theorem dL_work_69 : decode cL_work 69 = .ok (.goto 4, 3) := by decide +kernel
theorem dL_work_72 : decode cL_work 72 = .ok (.iconst 0, 1) := by decide +kernel
theorem dL_work_73 : decode cL_work 73 = .ok (.iadd, 1) := by decide +kernel
theorem dL_work_74 : decode cL_work 74 = .ok (.invokevirtual 55, 3) := by decide +kernel
theorem dL_work_77 : decode cL_work 77 = .ok (.goto 8, 3) := by decide +kernel
theorem dL_work_80 : decode cL_work 80 = .ok (.aload_n 0, 1) := by decide +kernel
theorem dL_work_81 : decode cL_work 81 = .ok (.iload_n 1, 1) := by decide +kernel
theorem dL_work_82 : decode cL_work 82 = .ok (.invokevirtual 59, 3) := by decide +kernel
theorem dL_work_85 : decode cL_work 85 = .ok (.istore 4, 2) := by decide +kernel
theorem dL_work_87 : decode cL_work 87 = .ok (.iload 4, 2) := by decide +kernel
theorem dL_work_89 : decode cL_work 89 = .ok (.ifCond .eq 7, 3) := by decide +kernel
theorem dL_work_92 : decode cL_work 92 = .ok (.iconst 1, 1) := by decide +kernel
theorem dL_work_93 : decode cL_work 93 = .ok (.goto 4, 3) := by decide +kernel
theorem dL_work_96 : decode cL_work 96 = .ok (.iconst 0, 1) := by decide +kernel
theorem dL_work_97 : decode cL_work 97 = .ok (.ireturn, 1) := by decide +kernel
theorem dL_work_98 : decode cL_work 98 = .ok (.astore 4, 2) := by decide +kernel
theorem dL_work_100 : decode cL_work 100 = .ok (.iconst (-1), 1) := by decide +kernel
theorem dL_work_101 : decode cL_work 101 = .ok (.ireturn, 1) := by decide +kernel
set_option maxRecDepth 20000 in
theorem ggL_cut_X3_cut : GoodIn wsL_cut wsX3_cut := goodIn_ca (goodIn_ca (goodIn_r _ [6, 7, 8, 9, 10, 11, 12, 13, 14, 15, 16, 17, 18, 5, 19, 20, 21, 22, 23, 24, 25, 26, 27, 28, 29, 30, 31, 32, 33, 34, 35, 36, 37, 38, 39, 40, 41, 42, 43, 44, 45, 46, 47, 48, 49, 50, 51, 52, 53, 54, 55, 56, 57, 58, 59, 60, 61, 62, 63, 64, 65, 66, 67, 68, 69, 70, 71, 72, 73, 74, 75, 76, 77, 78, 79, 80, 81, 82, 83, 84, 85, 86, 87, 88, 89, 90, 91] (by decide +kernel) (by decide +kernel)) (goodIn_sub (fun _ h => List.mem_cons_of_mem _ (List.mem_append_left _ (List.mem_append_right _ h))) (by decide +kernel))) (goodIn_sub (fun _ h => List.mem_cons_of_mem _ (List.mem_append_right _ h)) (by decide +kernel))
set_option maxRecDepth 20000 in
theorem gL_cut_X3_cut : GoodIn wsL_cut (wsV RL 65 RX3 yX3_cut wsX3_cut) := goodIn_app (goodIn_of _ (by decide +kernel)) ggL_cut_X3_cut
theorem dL_cut_0 : decode cL_cut 0 = .ok (.aload_n 0, 1) := by decide +kernel
theorem dL_cut_1 : decode cL_cut 1 = .ok (.iload_n 1, 1) := by decide +kernel
theorem dL_cut_2 : decode cL_cut 2 = .ok (.invokevirtual 65, 3) := by decide +kernel
theorem dL_cut_5 : decode cL_cut 5 = .ok (.ireturn, 1) := by decide +kernel
theorem dL_cut_6 : decode cL_cut 6 = .ok (.astore_n 2, 1) := by decide +kernel
theorem dL_cut_7 : decode cL_cut 7 = .ok (.iconst (-1), 1) := by decide +kernel
theorem dL_cut_8 : decode cL_cut 8 = .ok (.ireturn, 1) := by decide +kernel
set_option maxRecDepth 20000 in
theorem ggL_set_X3_set : GoodIn wsL_set wsX3_set := goodIn_ca (goodIn_ca (goodIn_ca (goodIn_r _ [6, 7, 8, 9, 10, 11, 12, 13, 14, 15, 16, 5, 17, 18, 19, 20, 21, 22, 23, 24, 25, 26, 27, 28, 29, 30, 31, 32, 33, 34, 35, 36, 37, 38, 39, 40, 41, 42, 43, 44, 45, 46, 47, 48, 49, 50, 51, 52, 53, 54, 55, 56, 57] (by decide +kernel) (by decide +kernel)) (goodIn_sub (fun _ h => List.mem_cons_of_mem _ (List.mem_append_left _ (List.mem_append_left _ (List.mem_append_right _ h)))) (by decide +kernel))) (goodIn_sub (fun _ h => List.mem_cons_of_mem _ (List.mem_append_left _ (List.mem_append_right _ h))) (by decide +kernel))) (goodIn_sub (fun _ h => List.mem_cons_of_mem _ (List.mem_append_right _ h)) (by decide +kernel))
set_option maxRecDepth 20000 in
theorem gL_set_X3_set : GoodIn wsL_set (wsV RL 67 RX3 yX3_set wsX3_set) := goodIn_app (goodIn_of _ (by decide +kernel)) ggL_set_X3_set
theorem dL_set_0 : decode cL_set 0 = .ok (.aload_n 0, 1) := by decide +kernel
theorem dL_set_1 : decode cL_set 1 = .ok (.iload_n 1, 1) := by decide +kernel
theorem dL_set_2 : decode cL_set 2 = .ok (.iload_n 2, 1) := by decide +kernel
theorem dL_set_3 : decode cL_set 3 = .ok (.iload_n 3, 1) := by decide +kernel
theorem dL_set_4 : decode cL_set 4 = .ok (.iload 4, 2) := by decide +kernel
theorem dL_set_6 : decode cL_set 6 = .ok (.invokevirtual 67, 3) := by decide +kernel
theorem dL_set_9 : decode cL_set 9 = .ok (.ireturn, 1) := by decide +kernel
theorem dL_set_10 : decode cL_set 10 = .ok (.astore 5, 2) := by decide +kernel
theorem dL_set_12 : decode cL_set 12 = .ok (.iconst (-1), 1) := by decide +kernel
theorem dL_set_13 : decode cL_set 13 = .ok (.ireturn, 1) := by decide +kernel
set_option maxRecDepth 20000 in
theorem ggL_law_L_shop : GoodIn wsL_law wsL_shop := goodIn_ca (goodIn_ca (goodIn_ca (goodIn_r _ [11, 12, 13, 14, 15, 16, 17, 18, 19, 20, 21, 22, 23, 24, 25, 26, 27, 28, 10, 29, 30, 31, 32, 33, 34, 35, 36, 37, 38, 39, 40, 41, 42, 43, 44, 45, 46, 47, 48, 49, 50, 51, 52, 53, 54, 55, 56, 57, 1, 58, 59, 60, 61, 62, 63, 64, 65, 66, 67, 68, 69, 70, 71, 72, 73, 74, 75, 76, 77, 78, 79, 80, 81, 82, 83, 84, 85, 86, 87, 88, 89, 90, 91, 92, 93, 94, 95, 96, 97, 98, 99, 100, 101, 102, 103, 104, 105, 106, 107, 108, 109, 110, 111, 112, 5, 113, 114, 115, 116, 117, 118, 119, 120, 121, 122, 123, 124, 125, 126, 127, 128, 129, 130, 131, 132, 133, 134, 135, 136, 137, 138, 139, 140, 141, 142, 143, 144, 145, 146, 147, 148, 149, 150, 151, 152, 153, 154, 155, 156, 157, 158, 159, 160, 161, 162, 163, 164, 165, 166, 167, 168, 169, 170, 171, 172, 173, 174, 175, 176, 177, 178, 179, 180, 181, 182, 183, 184, 185, 186, 187, 188, 189, 190, 191, 192, 193, 194, 195, 196, 197, 198, 199, 200, 201, 202, 203, 204, 205, 206, 207, 208, 209, 210, 211, 212, 213, 214, 215, 216, 217, 218, 219, 220, 221, 222, 223, 224, 225, 226, 227, 228, 229, 230, 231, 232, 233, 234, 235, 236, 237, 238, 239, 240, 241, 242, 243, 244, 245, 246, 247, 248, 339, 340, 341, 342, 343, 344, 345, 346, 347, 348, 349, 350, 351, 352, 353, 354, 355, 356, 357] (by decide +kernel) (by decide +kernel)) (goodIn_sub (fun _ h => List.mem_append_left _ (List.mem_append_left _ (List.mem_append_right _ h))) (by decide +kernel))) (goodIn_sub (fun _ h => List.mem_append_left _ (List.mem_append_right _ h)) (by decide +kernel))) (goodIn_sub (fun _ h => List.mem_append_right _ h) (by decide +kernel))
set_option maxRecDepth 20000 in
theorem gL_law_L_shop : GoodIn wsL_law (va_wsS RL 70 yL_shop wsL_shop) := goodIn_app (goodIn_of _ (by decide +kernel)) ggL_law_L_shop
set_option maxRecDepth 20000 in
theorem ggL_law_X3_count : GoodIn wsL_law wsX3_count := goodIn_ca (goodIn_r _ [192, 72, 73, 193, 194, 195, 14, 196, 106, 41, 152, 63, 197, 198, 199, 200, 22, 201, 202, 203, 204, 25, 205, 206, 207, 208, 209, 210, 211, 212, 213, 178, 179, 50, 180, 58, 165, 166, 167, 168, 95, 96, 97, 98, 99, 100, 101, 214, 215, 216, 217, 339, 340, 341, 342, 343, 344, 345, 346, 347, 348, 349, 350, 351, 353, 354, 355, 356, 357, 352] (by decide +kernel) (by decide +kernel)) (goodIn_sub (fun _ h => List.mem_append_left _ (List.mem_append_right _ h)) (by decide +kernel))
set_option maxRecDepth 20000 in
theorem gL_law_X3_count : GoodIn wsL_law (wsV RL 44 RX3 yX3_count wsX3_count) := goodIn_app (goodIn_of _ (by decide +kernel)) ggL_law_X3_count
set_option maxRecDepth 20000 in
theorem ggL_law_L_cell : GoodIn wsL_law wsL_cell := goodIn_r _ [29, 30] (by decide +kernel) (by decide +kernel)
set_option maxRecDepth 20000 in
theorem gL_law_L_cell : GoodIn wsL_law (va_wsS RL 12 yL_cell wsL_cell) := goodIn_app (goodIn_of _ (by decide +kernel)) ggL_law_L_cell
set_option maxRecDepth 20000 in
theorem ggL_law_L_below : GoodIn wsL_law wsL_below := goodIn_r _ [33, 34] (by decide +kernel) (by decide +kernel)
set_option maxRecDepth 20000 in
theorem gL_law_L_below : GoodIn wsL_law (va_wsS RL 18 yL_below wsL_below) := goodIn_app (goodIn_of _ (by decide +kernel)) ggL_law_L_below
set_option maxRecDepth 20000 in
theorem ggL_law_X3_cane : GoodIn wsL_law wsX3_cane := goodIn_ca (goodIn_r _ [252, 72, 73, 26, 76, 77, 78, 14, 79, 22, 253, 254, 255, 43, 256, 52, 132, 53, 90, 339, 340, 341, 342, 343, 344, 345, 346, 347, 348, 349, 350, 351] (by decide +kernel) (by decide +kernel)) (goodIn_sub (fun _ h => List.mem_append_left _ (List.mem_append_right _ h)) (by decide +kernel))
set_option maxRecDepth 20000 in
theorem gL_law_X3_cane : GoodIn wsL_law (wsV RL 76 RX3 yX3_cane wsX3_cane) := goodIn_app (goodIn_of _ (by decide +kernel)) ggL_law_X3_cane
set_option maxRecDepth 20000 in
theorem ggL_law_L_look : GoodIn wsL_law wsL_look := goodIn_ca (goodIn_r _ [259, 1, 260, 261, 262, 14, 263, 72, 73, 225, 226, 227, 228, 24, 80, 81, 82, 83, 84, 85, 264, 166, 167, 50, 168, 58, 95, 96, 97, 98, 99, 100, 101, 353, 354, 355, 356, 357, 339, 340, 341, 342, 343, 344, 345, 346, 352] (by decide +kernel) (by decide +kernel)) (goodIn_sub (fun _ h => List.mem_append_left _ (List.mem_append_right _ h)) (by decide +kernel))
set_option maxRecDepth 20000 in
theorem gL_law_L_look : GoodIn wsL_law (va_wsS RL 81 yL_look wsL_look) := goodIn_app (goodIn_of _ (by decide +kernel)) ggL_law_L_look
set_option maxRecDepth 20000 in
theorem ggL_law_X3_digest : GoodIn wsL_law wsX3_digest := goodIn_r _ [268, 269, 193, 194, 195, 14, 196, 106, 41, 152, 63, 197, 198, 199, 200, 22, 201, 202, 203, 204, 25, 205, 206, 207, 208, 209, 210, 211, 212, 213, 178, 179, 50, 180, 58, 165, 166, 167, 168, 95, 96, 97, 98, 99, 100, 101, 214, 215, 216, 217, 270, 271, 272, 273, 274, 275, 276, 277, 26, 253, 254, 255, 43, 256, 52, 132, 53, 90, 278, 279, 280, 281, 282, 283, 284, 24, 285, 286, 287, 288, 339, 340, 341, 342, 343, 344, 345, 346, 347, 348, 349, 350, 351, 353, 354, 355, 356, 357, 352] (by decide +kernel) (by decide +kernel)
set_option maxRecDepth 20000 in
theorem gL_law_X3_digest : GoodIn wsL_law (wsV RL 85 RX3 yX3_digest wsX3_digest) := goodIn_app (goodIn_of _ (by decide +kernel)) ggL_law_X3_digest
set_option maxRecDepth 20000 in
theorem ggL_law_L_work : GoodIn wsL_law wsL_work := goodIn_ca (goodIn_ca (goodIn_ca (goodIn_r _ [66, 67, 31, 32, 10, 33, 34, 68, 69, 70, 14, 71, 72, 73, 74, 75, 39, 40, 76, 77, 78, 79, 22, 80, 81, 82, 83, 84, 85, 86, 87, 88, 43, 89, 53, 90, 91, 92, 93, 50, 94, 58, 95, 96, 97, 98, 99, 100, 101, 102, 103, 104, 105, 26, 106, 107, 108, 109, 110, 111, 112, 5, 113, 114, 115, 116, 117, 118, 119, 120, 121, 122, 123, 124, 125, 126, 127, 128, 129, 130, 131, 52, 132, 347, 348, 349, 350, 351, 339, 340, 341, 342, 343, 344, 345, 346, 352] (by decide +kernel) (by decide +kernel)) (goodIn_sub (fun _ h => List.mem_append_left _ (List.mem_append_right _ h)) (by decide +kernel))) (goodIn_sub (fun _ h => List.mem_append_right _ h) (by decide +kernel))) (goodIn_sub (fun _ h => List.mem_append_left _ (List.mem_append_left _ (List.mem_append_right _ h))) (by decide +kernel))
set_option maxRecDepth 20000 in
theorem gL_law_L_work : GoodIn wsL_law (va_wsS RL 29 yL_work wsL_work) := goodIn_app (goodIn_of _ (by decide +kernel)) ggL_law_L_work
set_option maxRecDepth 20000 in
theorem ggL_law_X3_rest : GoodIn wsL_law wsX3_rest := goodIn_ca (goodIn_r _ [140, 74, 75, 102, 103, 104, 14, 105, 22, 26, 106, 107, 108, 109, 43, 110, 53, 111, 112, 5, 113, 114, 115, 116, 141, 142, 143, 144, 339, 340, 341, 342, 343, 344, 345, 346, 347, 348, 349, 350, 351] (by decide +kernel) (by decide +kernel)) (goodIn_sub (fun _ h => List.mem_append_right _ h) (by decide +kernel))
set_option maxRecDepth 20000 in
theorem gL_law_X3_rest : GoodIn wsL_law (wsV RL 37 RX3 yX3_rest wsX3_rest) := goodIn_app (goodIn_of _ (by decide +kernel)) ggL_law_X3_rest
set_option maxRecDepth 20000 in
theorem ggL_law_X3_furnace : GoodIn wsL_law wsX3_furnace := goodIn_ca (goodIn_r _ [136, 72, 73, 26, 76, 77, 78, 14, 79, 22, 339, 340, 341, 342, 343, 344, 345, 346] (by decide +kernel) (by decide +kernel)) (goodIn_sub (fun _ h => List.mem_append_left _ (List.mem_append_right _ h)) (by decide +kernel))
set_option maxRecDepth 20000 in
theorem gL_law_X3_furnace : GoodIn wsL_law (wsV RL 33 RX3 yX3_furnace wsX3_furnace) := goodIn_app (goodIn_of _ (by decide +kernel)) ggL_law_X3_furnace
set_option maxRecDepth 20000 in
theorem ggL_law_X3_shows : GoodIn wsL_law wsX3_shows := goodIn_ca (goodIn_r _ [292, 72, 73, 76, 77, 78, 14, 79, 22, 293, 294, 295, 43, 296, 52, 80, 81, 82, 83, 84, 85, 155, 156, 157, 158, 132, 264, 166, 167, 50, 168, 58, 95, 96, 97, 98, 99, 100, 101, 347, 348, 349, 350, 351, 339, 340, 341, 342, 343, 344, 345, 346, 352] (by decide +kernel) (by decide +kernel)) (goodIn_sub (fun _ h => List.mem_append_left _ (List.mem_append_right _ h)) (by decide +kernel))
set_option maxRecDepth 20000 in
theorem gL_law_X3_shows : GoodIn wsL_law (wsV RL 89 RX3 yX3_shows wsX3_shows) := goodIn_app (goodIn_of _ (by decide +kernel)) ggL_law_X3_shows
set_option maxRecDepth 20000 in
theorem ggL_law_L_cut : GoodIn wsL_law wsL_cut := goodIn_ca (goodIn_ca (goodIn_r _ [147, 67, 148, 149, 150, 14, 151, 72, 73, 39, 40, 152, 24, 23, 153, 154, 76, 77, 78, 79, 22, 155, 156, 157, 43, 158, 132, 159, 160, 161, 50, 162, 163, 49, 58, 164, 55, 56, 57, 19, 20, 1, 165, 166, 167, 168, 95, 96, 97, 98, 99, 100, 101, 169, 170, 171, 172, 173, 174, 175, 176, 177, 178, 179, 180, 181, 182, 183, 184, 185, 186, 187, 188, 347, 348, 349, 350, 351, 339, 340, 341, 342, 343, 344, 345, 346, 353, 354, 355, 356, 357, 352] (by decide +kernel) (by decide +kernel)) (goodIn_sub (fun _ h => List.mem_append_left _ (List.mem_append_right _ h)) (by decide +kernel))) (goodIn_sub (fun _ h => List.mem_append_left _ (List.mem_append_left _ (List.mem_append_right _ h))) (by decide +kernel))
set_option maxRecDepth 20000 in
theorem gL_law_L_cut : GoodIn wsL_law (va_wsS RL 40 yL_cut wsL_cut) := goodIn_app (goodIn_of _ (by decide +kernel)) ggL_law_L_cut
set_option maxRecDepth 20000 in
theorem ggL_law_X3_where : GoodIn wsL_law wsX3_where := goodIn_ca (goodIn_r _ [300, 72, 73, 225, 226, 227, 14, 228, 24, 353, 354, 355, 356, 357, 339, 340, 341, 342, 343, 344, 345, 346] (by decide +kernel) (by decide +kernel)) (goodIn_sub (fun _ h => List.mem_append_left _ (List.mem_append_right _ h)) (by decide +kernel))
set_option maxRecDepth 20000 in
theorem gL_law_X3_where : GoodIn wsL_law (wsV RL 92 RX3 yX3_where wsX3_where) := goodIn_app (goodIn_of _ (by decide +kernel)) ggL_law_X3_where
set_option maxRecDepth 20000 in
theorem ggL_law_J7_equals_bbcde : GoodIn wsL_law wsJ7_equals_bbcde := goodIn_r _ [304, 305, 306, 307, 308, 309, 310] (by decide +kernel) (by decide +kernel)
set_option maxRecDepth 20000 in
theorem gL_law_J7_equals_bbcde : GoodIn wsL_law (va_wsS RL 95 yJ7_equals_bbcde wsJ7_equals_bbcde) := goodIn_app (goodIn_of _ (by decide +kernel)) ggL_law_J7_equals_bbcde
set_option maxRecDepth 20000 in
theorem ggL_law_L_set : GoodIn wsL_law wsL_set := goodIn_ca (goodIn_ca (goodIn_ca (goodIn_r _ [220, 67, 221, 222, 223, 14, 224, 72, 73, 74, 75, 39, 40, 25, 225, 226, 227, 228, 24, 229, 230, 231, 232, 63, 233, 234, 235, 83, 84, 85, 236, 237, 238, 154, 239, 188, 240, 241, 242, 243, 244, 245, 246, 247, 248, 339, 340, 341, 342, 343, 344, 345, 346, 353, 354, 355, 356, 357] (by decide +kernel) (by decide +kernel)) (goodIn_sub (fun _ h => List.mem_append_left _ (List.mem_append_right _ h)) (by decide +kernel))) (goodIn_sub (fun _ h => List.mem_append_right _ h) (by decide +kernel))) (goodIn_sub (fun _ h => List.mem_append_left _ (List.mem_append_left _ (List.mem_append_right _ h))) (by decide +kernel))
set_option maxRecDepth 20000 in
theorem gL_law_L_set : GoodIn wsL_law (va_wsS RL 47 yL_set wsL_set) := goodIn_app (goodIn_of _ (by decide +kernel)) ggL_law_L_set
set_option maxRecDepth 20000 in
theorem ggL_law_X3_mean : GoodIn wsL_law wsX3_mean := goodIn_r _ [314, 41, 141, 142, 143, 14, 144, 22, 339, 340, 341, 342, 343, 344, 345, 346, 347, 348, 349, 350, 351] (by decide +kernel) (by decide +kernel)
set_option maxRecDepth 20000 in
theorem gL_law_X3_mean : GoodIn wsL_law (wsV RL 106 RX3 yX3_mean wsX3_mean) := goodIn_app (goodIn_of _ (by decide +kernel)) ggL_law_X3_mean
set_option maxRecDepth 20000 in
theorem ggL_law_X3_mends : GoodIn wsL_law wsX3_mends := goodIn_ca (goodIn_r _ [318, 72, 73, 25, 229, 230, 231, 14, 232, 63, 319, 320, 321, 322, 152, 323, 324, 325, 326, 24, 236, 237, 238, 154, 239, 188, 209, 210, 211, 212, 213, 178, 179, 50, 180, 58, 165, 166, 167, 168, 95, 96, 97, 98, 99, 100, 101, 339, 340, 341, 342, 343, 344, 345, 346, 353, 354, 355, 356, 357, 352] (by decide +kernel) (by decide +kernel)) (goodIn_sub (fun _ h => List.mem_append_left _ (List.mem_append_right _ h)) (by decide +kernel))
set_option maxRecDepth 20000 in
theorem gL_law_X3_mends : GoodIn wsL_law (wsV RL 110 RX3 yX3_mends wsX3_mends) := goodIn_app (goodIn_of _ (by decide +kernel)) ggL_law_X3_mends
set_option maxRecDepth 20000 in
theorem ggL_law_X3_seen : GoodIn wsL_law wsX3_seen := goodIn_ca (goodIn_r _ [330, 72, 73, 25, 229, 230, 231, 14, 232, 63, 233, 234, 235, 80, 81, 82, 83, 84, 85, 264, 166, 167, 50, 168, 58, 95, 96, 97, 98, 99, 100, 101, 339, 340, 341, 342, 343, 344, 345, 346, 353, 354, 355, 356, 357, 352] (by decide +kernel) (by decide +kernel)) (goodIn_sub (fun _ h => List.mem_append_left _ (List.mem_append_right _ h)) (by decide +kernel))
set_option maxRecDepth 20000 in
theorem gL_law_X3_seen : GoodIn wsL_law (wsV RL 113 RX3 yX3_seen wsX3_seen) := goodIn_app (goodIn_of _ (by decide +kernel)) ggL_law_X3_seen
set_option maxRecDepth 20000 in
theorem ggL_law_X3_turn : GoodIn wsL_law wsX3_turn := goodIn_ca (goodIn_r _ [334, 72, 73, 225, 226, 227, 14, 228, 24, 173, 174, 175, 50, 176, 177, 178, 179, 180, 58, 165, 166, 167, 168, 95, 96, 97, 98, 99, 100, 101, 353, 354, 355, 356, 357, 339, 340, 341, 342, 343, 344, 345, 346, 352] (by decide +kernel) (by decide +kernel)) (goodIn_sub (fun _ h => List.mem_append_left _ (List.mem_append_right _ h)) (by decide +kernel))
set_option maxRecDepth 20000 in
theorem gL_law_X3_turn : GoodIn wsL_law (wsV RL 116 RX3 yX3_turn wsX3_turn) := goodIn_app (goodIn_of _ (by decide +kernel)) ggL_law_X3_turn
set_option maxRecDepth 20000 in
theorem ggL_law_X3_cuts : GoodIn wsL_law wsX3_cuts := goodIn_ca (goodIn_r _ [338, 72, 73, 76, 77, 78, 14, 79, 22, 225, 226, 227, 228, 24, 155, 156, 157, 43, 158, 132, 213, 178, 179, 50, 180, 58, 165, 166, 167, 168, 95, 96, 97, 98, 99, 100, 101, 347, 348, 349, 350, 351, 353, 354, 355, 356, 357, 339, 340, 341, 342, 343, 344, 345, 346, 352] (by decide +kernel) (by decide +kernel)) (goodIn_sub (fun _ h => List.mem_append_left _ (List.mem_append_right _ h)) (by decide +kernel))
set_option maxRecDepth 20000 in
theorem gL_law_X3_cuts : GoodIn wsL_law (wsV RL 119 RX3 yX3_cuts wsX3_cuts) := goodIn_app (goodIn_of _ (by decide +kernel)) ggL_law_X3_cuts
