theorem dL_draw_0 : decode cL_draw 0 = .ok (.iload_n 1, 1) := by decide +kernel
theorem dL_draw_1 : decode cL_draw 1 = .ok (.aload_n 0, 1) := by decide +kernel
theorem dL_draw_2 : decode cL_draw 2 = .ok (.arraylength, 1) := by decide +kernel
theorem dL_draw_3 : decode cL_draw 3 = .ok (.if_icmp .ge 9, 3) := by decide +kernel
theorem dL_draw_6 : decode cL_draw 6 = .ok (.aload_n 0, 1) := by decide +kernel
theorem dL_draw_7 : decode cL_draw 7 = .ok (.iload_n 1, 1) := by decide +kernel
theorem dL_draw_8 : decode cL_draw 8 = .ok (.iaload, 1) := by decide +kernel
theorem dL_draw_9 : decode cL_draw 9 = .ok (.goto 14, 3) := by decide +kernel
theorem dL_draw_12 : decode cL_draw 12 = .ok (.ldc 7, 2) := by decide +kernel
theorem dL_draw_14 : decode cL_draw 14 = .ok (.iload_n 1, 1) := by decide +kernel
theorem dL_draw_15 : decode cL_draw 15 = .ok (.sipush 163, 3) := by decide +kernel
theorem dL_draw_18 : decode cL_draw 18 = .ok (.iadd, 1) := by decide +kernel
theorem dL_draw_19 : decode cL_draw 19 = .ok (.imul, 1) := by decide +kernel
theorem dL_draw_20 : decode cL_draw 20 = .ok (.ldc 8, 2) := by decide +kernel
theorem dL_draw_22 : decode cL_draw 22 = .ok (.iadd, 1) := by decide +kernel
theorem dL_draw_23 : decode cL_draw 23 = .ok (.istore_n 3, 1) := by decide +kernel
theorem dL_draw_24 : decode cL_draw 24 = .ok (.iload_n 3, 1) := by decide +kernel
theorem dL_draw_25 : decode cL_draw 25 = .ok (.ldc 9, 2) := by decide +kernel
theorem dL_draw_27 : decode cL_draw 27 = .ok (.iand, 1) := by decide +kernel
theorem dL_draw_28 : decode cL_draw 28 = .ok (.iload_n 2, 1) := by decide +kernel
theorem dL_draw_29 : decode cL_draw 29 = .ok (.irem, 1) := by decide +kernel
theorem dL_draw_30 : decode cL_draw 30 = .ok (.ireturn, 1) := by decide +kernel
theorem dL_has_0 : decode cL_has 0 = .ok (.iload_n 0, 1) := by decide +kernel
theorem dL_has_1 : decode cL_has 1 = .ok (.iload_n 1, 1) := by decide +kernel
theorem dL_has_2 : decode cL_has 2 = .ok (.ishr, 1) := by decide +kernel
theorem dL_has_3 : decode cL_has 3 = .ok (.iconst 1, 1) := by decide +kernel
theorem dL_has_4 : decode cL_has 4 = .ok (.iand, 1) := by decide +kernel
theorem dL_has_5 : decode cL_has 5 = .ok (.iconst 1, 1) := by decide +kernel
theorem dL_has_6 : decode cL_has 6 = .ok (.if_icmp .ne 7, 3) := by decide +kernel
theorem dL_has_9 : decode cL_has 9 = .ok (.iconst 1, 1) := by decide +kernel
theorem dL_has_10 : decode cL_has 10 = .ok (.goto 4, 3) := by decide +kernel
theorem dL_has_13 : decode cL_has 13 = .ok (.iconst 0, 1) := by decide +kernel
theorem dL_has_14 : decode cL_has 14 = .ok (.ireturn, 1) := by decide +kernel
theorem dL_size_0 : decode cL_size 0 = .ok (.iconst 0, 1) := by decide +kernel
theorem dL_size_1 : decode cL_size 1 = .ok (.istore_n 1, 1) := by decide +kernel
theorem dL_size_2 : decode cL_size 2 = .ok (.iload_n 0, 1) := by decide +kernel
theorem dL_size_3 : decode cL_size 3 = .ok (.istore_n 2, 1) := by decide +kernel
theorem dL_size_4 : decode cL_size 4 = .ok (.iload_n 2, 1) := by decide +kernel
theorem dL_size_5 : decode cL_size 5 = .ok (.ifCond .eq 15, 3) := by decide +kernel
theorem dL_size_8 : decode cL_size 8 = .ok (.iinc 1 1, 3) := by decide +kernel
theorem dL_size_11 : decode cL_size 11 = .ok (.iload_n 2, 1) := by decide +kernel
theorem dL_size_12 : decode cL_size 12 = .ok (.iload_n 2, 1) := by decide +kernel
theorem dL_size_13 : decode cL_size 13 = .ok (.iconst 1, 1) := by decide +kernel
theorem dL_size_14 : decode cL_size 14 = .ok (.isub, 1) := by decide +kernel
theorem dL_size_15 : decode cL_size 15 = .ok (.iand, 1) := by decide +kernel
theorem dL_size_16 : decode cL_size 16 = .ok (.istore_n 2, 1) := by decide +kernel
theorem dL_size_17 : decode cL_size 17 = .ok (.goto (-13), 3) := by decide +kernel
theorem dL_size_20 : decode cL_size 20 = .ok (.iload_n 1, 1) := by decide +kernel
theorem dL_size_21 : decode cL_size 21 = .ok (.ireturn, 1) := by decide +kernel
theorem dL_players_0 : decode cL_players 0 = .ok (.aload_n 0, 1) := by decide +kernel
theorem dL_players_1 : decode cL_players 1 = .ok (.iload_n 1, 1) := by decide +kernel
theorem dL_players_2 : decode cL_players 2 = .ok (.laload, 1) := by decide +kernel
theorem dL_players_3 : decode cL_players 3 = .ok (.ldc2_w 10, 3) := by decide +kernel
theorem dL_players_6 : decode cL_players 6 = .ok (.land, 1) := by decide +kernel
theorem dL_players_7 : decode cL_players 7 = .ok (.l2i, 1) := by decide +kernel
theorem dL_players_8 : decode cL_players 8 = .ok (.ireturn, 1) := by decide +kernel
theorem dL_since_0 : decode cL_since 0 = .ok (.aload_n 0, 1) := by decide +kernel
theorem dL_since_1 : decode cL_since 1 = .ok (.iload_n 1, 1) := by decide +kernel
theorem dL_since_2 : decode cL_since 2 = .ok (.laload, 1) := by decide +kernel
theorem dL_since_3 : decode cL_since 3 = .ok (.bipush 18, 2) := by decide +kernel
theorem dL_since_5 : decode cL_since 5 = .ok (.lshr, 1) := by decide +kernel
theorem dL_since_6 : decode cL_since 6 = .ok (.ldc2_w 12, 3) := by decide +kernel
theorem dL_since_9 : decode cL_since 9 = .ok (.land, 1) := by decide +kernel
theorem dL_since_10 : decode cL_since 10 = .ok (.l2i, 1) := by decide +kernel
theorem dL_since_11 : decode cL_since 11 = .ok (.ireturn, 1) := by decide +kernel
theorem dL_queues_0 : decode cL_queues 0 = .ok (.aload_n 0, 1) := by decide +kernel
theorem dL_queues_1 : decode cL_queues 1 = .ok (.iload_n 1, 1) := by decide +kernel
theorem dL_queues_2 : decode cL_queues 2 = .ok (.laload, 1) := by decide +kernel
theorem dL_queues_3 : decode cL_queues 3 = .ok (.bipush 40, 2) := by decide +kernel
theorem dL_queues_5 : decode cL_queues 5 = .ok (.lshr, 1) := by decide +kernel
theorem dL_queues_6 : decode cL_queues 6 = .ok (.lconst 1, 1) := by decide +kernel
theorem dL_queues_7 : decode cL_queues 7 = .ok (.land, 1) := by decide +kernel
theorem dL_queues_8 : decode cL_queues 8 = .ok (.lconst 1, 1) := by decide +kernel
theorem dL_queues_9 : decode cL_queues 9 = .ok (.lcmp, 1) := by decide +kernel
theorem dL_queues_10 : decode cL_queues 10 = .ok (.ifCond .ne 7, 3) := by decide +kernel
theorem dL_queues_13 : decode cL_queues 13 = .ok (.iconst 1, 1) := by decide +kernel
theorem dL_queues_14 : decode cL_queues 14 = .ok (.goto 4, 3) := by decide +kernel
theorem dL_queues_17 : decode cL_queues 17 = .ok (.iconst 0, 1) := by decide +kernel
theorem dL_queues_18 : decode cL_queues 18 = .ok (.ireturn, 1) := by decide +kernel
set_option maxRecDepth 20000 in
theorem ggL_asks_X5_queue : GoodIn wsL_asks wsX5_queue := goodIn_ca (goodIn_ca (goodIn_r _ [7, 8, 9, 10, 11, 12, 13, 14, 15, 16, 17, 18, 19, 20, 21, 22, 23, 24, 25, 26, 27, 28, 29, 30, 31, 32, 33, 34, 6, 35, 36, 37, 38, 39, 40, 41, 42, 43, 44, 45, 46, 47, 48, 49, 50, 51, 52, 53, 54, 55, 56, 57, 58, 59, 60, 61, 62, 63, 64, 65, 66, 67, 68, 69, 70, 71, 72, 73, 74, 75, 76, 77, 78, 79, 80, 81, 82, 83, 84, 85, 86, 87, 88, 89, 90, 91, 92, 93, 94, 95, 96, 97, 98, 99, 100, 101, 102, 103, 104, 105, 106, 107, 108, 109, 110, 111, 112, 113, 114, 115, 116, 117, 118, 119, 120, 121, 122, 123, 124, 125, 126, 127, 128, 129, 130, 131, 132, 133, 134, 135, 136, 137, 138, 139, 140, 141, 142, 143, 144, 145, 146, 147, 148, 149, 150, 151, 152, 153, 276, 277, 278, 279, 280, 281, 282, 283, 284, 285, 286, 287, 288, 289, 290, 291, 292, 293, 294] (by decide +kernel) (by decide +kernel)) (goodIn_sub (fun _ h => List.mem_cons_of_mem _ (List.mem_append_left _ (List.mem_append_left _ (List.mem_append_right _ h)))) (by decide +kernel))) (goodIn_sub (fun _ h => List.mem_cons_of_mem _ (List.mem_append_left _ (List.mem_append_right _ h))) (by decide +kernel))
set_option maxRecDepth 20000 in
theorem gL_asks_X5_queue : GoodIn wsL_asks (wsV RL 14 RX5 yX5_queue wsX5_queue) := goodIn_app (goodIn_of _ (by decide +kernel)) ggL_asks_X5_queue
set_option maxRecDepth 20000 in
theorem ggL_asks_X5_leave : GoodIn wsL_asks wsX5_leave := goodIn_ca (goodIn_ca (goodIn_r _ [157, 158, 17, 159, 160, 161, 162, 6, 163, 10, 11, 164, 165, 166, 167, 168, 169, 13, 170, 26, 27, 28, 29, 30, 31, 37, 38, 39, 40, 41, 42, 43, 44, 45, 46, 47, 48, 49, 50, 51, 52, 53, 281, 282, 283, 284, 285, 276, 277, 278, 279, 280, 286, 287, 288] (by decide +kernel) (by decide +kernel)) (goodIn_sub (fun _ h => List.mem_cons_of_mem _ (List.mem_append_left _ (List.mem_append_right _ h))) (by decide +kernel))) (goodIn_sub (fun _ h => List.mem_cons_of_mem _ (List.mem_append_right _ h)) (by decide +kernel))
set_option maxRecDepth 20000 in
theorem gL_asks_X5_leave : GoodIn wsL_asks (wsV RL 20 RX5 yX5_leave wsX5_leave) := goodIn_app (goodIn_of _ (by decide +kernel)) ggL_asks_X5_leave
set_option maxRecDepth 20000 in
theorem ggL_asks_X5_accept : GoodIn wsL_asks wsX5_accept := goodIn_ca (goodIn_ca (goodIn_r _ [174, 175, 176, 177, 178, 6, 179, 10, 11, 180, 181, 182, 183, 168, 169, 184, 185, 26, 27, 28, 29, 30, 31, 37, 38, 39, 40, 41, 42, 43, 44, 45, 46, 47, 48, 49, 50, 51, 52, 53, 186, 187, 188, 189, 12, 18, 190, 191, 192, 193, 194, 195, 196, 55, 56, 197, 198, 199, 200, 295, 296, 297, 298, 299, 300, 301, 276, 277, 278, 279, 280, 286, 287, 288] (by decide +kernel) (by decide +kernel)) (goodIn_sub (fun _ h => List.mem_cons_of_mem _ (List.mem_append_left _ (List.mem_append_right _ h))) (by decide +kernel))) (goodIn_sub (fun _ h => List.mem_cons_of_mem _ (List.mem_append_right _ h)) (by decide +kernel))
set_option maxRecDepth 20000 in
theorem gL_asks_X5_accept : GoodIn wsL_asks (wsV RL 23 RX5 yX5_accept wsX5_accept) := goodIn_app (goodIn_of _ (by decide +kernel)) ggL_asks_X5_accept
set_option maxRecDepth 20000 in
theorem ggL_asks_X5_decline : GoodIn wsL_asks wsX5_decline := goodIn_ca (goodIn_ca (goodIn_r _ [204, 17, 176, 177, 178, 6, 179, 10, 11, 180, 181, 182, 183, 168, 169, 184, 185, 26, 27, 28, 29, 30, 31, 37, 38, 39, 40, 41, 42, 43, 44, 45, 46, 47, 48, 49, 50, 51, 52, 53, 186, 187, 188, 189, 12, 18, 190, 191, 192, 193, 194, 195, 196, 55, 56, 205, 206, 207, 208, 209, 210, 211, 212, 213, 214, 215, 216, 217, 218, 219, 220, 60, 221, 62, 63, 222, 223, 143, 117, 144, 224, 276, 277, 278, 279, 280, 286, 287, 288, 295, 296, 297, 298, 299, 300, 301, 281, 282, 283, 284, 285, 289, 290, 291, 292, 293, 294] (by decide +kernel) (by decide +kernel)) (goodIn_sub (fun _ h => List.mem_cons_of_mem _ (List.mem_append_left _ (List.mem_append_right _ h))) (by decide +kernel))) (goodIn_sub (fun _ h => List.mem_cons_of_mem _ (List.mem_append_right _ h)) (by decide +kernel))
set_option maxRecDepth 20000 in
theorem gL_asks_X5_decline : GoodIn wsL_asks (wsV RL 27 RX5 yX5_decline wsX5_decline) := goodIn_app (goodIn_of _ (by decide +kernel)) ggL_asks_X5_decline
set_option maxRecDepth 20000 in
theorem ggL_asks_L_finishes : GoodIn wsL_asks wsL_finishes := goodIn_ca (goodIn_ca (goodIn_ca (goodIn_r _ [228, 229, 230, 231, 6, 232, 10, 11, 175, 233, 234, 180, 181, 182, 183, 168, 169, 184, 185, 26, 27, 28, 29, 30, 31, 37, 38, 39, 40, 41, 42, 43, 44, 45, 46, 47, 48, 49, 50, 51, 52, 53, 235, 236, 237, 8, 9, 238, 239, 240, 241, 242, 116, 117, 118, 243, 143, 144, 244, 245, 246, 247, 12, 18, 248, 54, 55, 56, 249, 250, 251, 252, 253, 254, 255, 60, 256, 257, 258, 259, 223, 222, 260, 261, 262, 263, 264, 265, 266, 193, 267, 195, 209, 210, 211, 212, 213, 214, 215, 216, 217, 295, 296, 297, 298, 299, 300, 301, 276, 277, 278, 279, 280, 286, 287, 288, 289, 290, 291, 292, 293, 294, 281, 282, 283, 284, 285] (by decide +kernel) (by decide +kernel)) (goodIn_sub (fun _ h => List.mem_cons_of_mem _ (List.mem_append_left _ (List.mem_append_right _ h))) (by decide +kernel))) (goodIn_sub (fun _ h => List.mem_cons_of_mem _ (List.mem_append_right _ h)) (by decide +kernel))) (goodIn_sub (fun _ h => List.mem_cons_of_mem _ (List.mem_append_left _ (List.mem_append_left _ (List.mem_append_right _ h)))) (by decide +kernel))
set_option maxRecDepth 20000 in
theorem gL_asks_L_finishes : GoodIn wsL_asks (va_wsS RL 31 yL_finishes wsL_finishes) := goodIn_app (goodIn_of _ (by decide +kernel)) ggL_asks_L_finishes
set_option maxRecDepth 20000 in
theorem ggL_asks_X5_window : GoodIn wsL_asks wsX5_window := goodIn_ca (goodIn_ca (goodIn_r _ [271, 17, 160, 161, 162, 6, 163, 10, 11, 158, 164, 165, 166, 167, 168, 169, 13, 170, 26, 27, 28, 29, 30, 31, 37, 38, 39, 40, 41, 42, 43, 44, 45, 46, 47, 48, 49, 50, 51, 52, 53, 272, 273, 274, 16, 275, 71, 276, 277, 278, 279, 280, 281, 282, 283, 284, 285, 286, 287, 288] (by decide +kernel) (by decide +kernel)) (goodIn_sub (fun _ h => List.mem_cons_of_mem _ (List.mem_append_left _ (List.mem_append_right _ h))) (by decide +kernel))) (goodIn_sub (fun _ h => List.mem_cons_of_mem _ (List.mem_append_right _ h)) (by decide +kernel))
set_option maxRecDepth 20000 in
theorem gL_asks_X5_window : GoodIn wsL_asks (wsV RL 37 RX5 yX5_window wsX5_window) := goodIn_app (goodIn_of _ (by decide +kernel)) ggL_asks_X5_window
theorem dL_asks_0 : decode cL_asks 0 = .ok (.iload_n 1, 1) := by decide +kernel
theorem dL_asks_1 : decode cL_asks 1 = .ok (.ifCond .ne 11, 3) := by decide +kernel
theorem dL_asks_4 : decode cL_asks 4 = .ok (.aload_n 0, 1) := by decide +kernel
theorem dL_asks_5 : decode cL_asks 5 = .ok (.iload_n 2, 1) := by decide +kernel
theorem dL_asks_6 : decode cL_asks 6 = .ok (.invokevirtual 14, 3) := by decide +kernel
theorem dL_asks_9 : decode cL_asks 9 = .ok (.goto 71, 3) := by decide +kernel
theorem dL_asks_12 : decode cL_asks 12 = .ok (.iload_n 1, 1) := by decide +kernel
theorem dL_asks_13 : decode cL_asks 13 = .ok (.iconst 1, 1) := by decide +kernel
theorem dL_asks_14 : decode cL_asks 14 = .ok (.if_icmp .ne 11, 3) := by decide +kernel
theorem dL_asks_17 : decode cL_asks 17 = .ok (.aload_n 0, 1) := by decide +kernel
theorem dL_asks_18 : decode cL_asks 18 = .ok (.iload_n 2, 1) := by decide +kernel
theorem dL_asks_19 : decode cL_asks 19 = .ok (.invokevirtual 20, 3) := by decide +kernel
theorem dL_asks_22 : decode cL_asks 22 = .ok (.goto 58, 3) := by decide +kernel
theorem dL_asks_25 : decode cL_asks 25 = .ok (.iload_n 1, 1) := by decide +kernel
theorem dL_asks_26 : decode cL_asks 26 = .ok (.iconst 2, 1) := by decide +kernel
theorem dL_asks_27 : decode cL_asks 27 = .ok (.if_icmp .ne 20, 3) := by decide +kernel
theorem dL_asks_30 : decode cL_asks 30 = .ok (.aload_n 0, 1) := by decide +kernel
theorem dL_asks_31 : decode cL_asks 31 = .ok (.iload_n 2, 1) := by decide +kernel
theorem dL_asks_32 : decode cL_asks 32 = .ok (.iload_n 3, 1) := by decide +kernel
theorem dL_asks_33 : decode cL_asks 33 = .ok (.invokevirtual 23, 3) := by decide +kernel
theorem dL_asks_36 : decode cL_asks 36 = .ok (.ifCond .eq 7, 3) := by decide +kernel
theorem dL_asks_39 : decode cL_asks 39 = .ok (.iconst 1, 1) := by decide +kernel
theorem dL_asks_40 : decode cL_asks 40 = .ok (.goto 40, 3) := by decide +kernel
theorem dL_asks_43 : decode cL_asks 43 = .ok (.iconst 0, 1) := by decide +kernel
theorem dL_asks_44 : decode cL_asks 44 = .ok (.goto 36, 3) := by decide +kernel
theorem dL_asks_47 : decode cL_asks 47 = .ok (.iload_n 1, 1) := by decide +kernel
theorem dL_asks_48 : decode cL_asks 48 = .ok (.iconst 3, 1) := by decide +kernel
theorem dL_asks_49 : decode cL_asks 49 = .ok (.if_icmp .ne 12, 3) := by decide +kernel
theorem dL_asks_52 : decode cL_asks 52 = .ok (.aload_n 0, 1) := by decide +kernel
theorem dL_asks_53 : decode cL_asks 53 = .ok (.iload_n 2, 1) := by decide +kernel
theorem dL_asks_54 : decode cL_asks 54 = .ok (.iload_n 3, 1) := by decide +kernel
theorem dL_asks_55 : decode cL_asks 55 = .ok (.invokevirtual 27, 3) := by decide +kernel
theorem dL_asks_58 : decode cL_asks 58 = .ok (.goto 22, 3) := by decide +kernel
theorem dL_asks_61 : decode cL_asks 61 = .ok (.iload_n 1, 1) := by decide +kernel
theorem dL_asks_62 : decode cL_asks 62 = .ok (.iconst 4, 1) := by decide +kernel
theorem dL_asks_63 : decode cL_asks 63 = .ok (.if_icmp .ne 12, 3) := by decide +kernel
theorem dL_asks_66 : decode cL_asks 66 = .ok (.aload_n 0, 1) := by decide +kernel
theorem dL_asks_67 : decode cL_asks 67 = .ok (.iload_n 2, 1) := by decide +kernel
theorem dL_asks_68 : decode cL_asks 68 = .ok (.iload_n 3, 1) := by decide +kernel
theorem dL_asks_69 : decode cL_asks 69 = .ok (.invokestatic 31, 3) := by decide +kernel
theorem dL_asks_72 : decode cL_asks 72 = .ok (.goto 8, 3) := by decide +kernel
theorem dL_asks_75 : decode cL_asks 75 = .ok (.aload_n 0, 1) := by decide +kernel
theorem dL_asks_76 : decode cL_asks 76 = .ok (.iload_n 2, 1) := by decide +kernel
theorem dL_asks_77 : decode cL_asks 77 = .ok (.invokevirtual 37, 3) := by decide +kernel
theorem dL_asks_80 : decode cL_asks 80 = .ok (.ireturn, 1) := by decide +kernel
theorem dL_asks_81 : decode cL_asks 81 = .ok (.astore 4, 2) := by decide +kernel
theorem dL_asks_83 : decode cL_asks 83 = .ok (.bipush (-7), 2) := by decide +kernel
theorem dL_asks_85 : decode cL_asks 85 = .ok (.ireturn, 1) := by decide +kernel
theorem dL_asks_86 : decode cL_asks 86 = .ok (.astore 4, 2) := by decide +kernel
theorem dL_asks_88 : decode cL_asks 88 = .ok (.bipush (-8), 2) := by decide +kernel
theorem dL_asks_90 : decode cL_asks 90 = .ok (.ireturn, 1) := by decide +kernel
set_option maxRecDepth 20000 in
theorem ggL_finishes_X5_finish : GoodIn wsL_finishes wsX5_finish := goodIn_ca (goodIn_ca (goodIn_ca (goodIn_r _ [5, 6, 7, 8, 9, 10, 11, 12, 13, 4, 14, 15, 16, 17, 18, 19, 20, 21, 22, 23, 24, 25, 26, 27, 28, 29, 30, 31, 32, 33, 34, 35, 36, 37, 38, 39, 40, 41, 42, 43, 44, 45, 46, 47, 48, 49, 50, 51, 52, 53, 54, 55, 56, 57, 58, 59, 60, 61, 62, 63, 64, 65, 66, 67, 68, 69, 70, 71, 72, 73, 74, 75, 76, 77, 78, 79, 80, 81, 82, 83, 84, 85, 86, 87, 88, 89, 90, 91, 92, 93, 94, 95, 96, 97, 98, 99, 100, 101, 102, 103, 104, 105, 106, 107, 108, 109, 110, 111, 112, 113, 114, 115, 116, 117, 118, 119, 120, 121, 122, 123, 124, 125, 126] (by decide +kernel) (by decide +kernel)) (goodIn_sub (fun _ h => List.mem_cons_of_mem _ (List.mem_append_left _ (List.mem_append_left _ (List.mem_append_right _ h)))) (by decide +kernel))) (goodIn_sub (fun _ h => List.mem_cons_of_mem _ (List.mem_append_left _ (List.mem_append_right _ h))) (by decide +kernel))) (goodIn_sub (fun _ h => List.mem_cons_of_mem _ (List.mem_append_right _ h)) (by decide +kernel))
set_option maxRecDepth 20000 in
theorem gL_finishes_X5_finish : GoodIn wsL_finishes (wsV RL 44 RX5 yX5_finish wsX5_finish) := goodIn_app (goodIn_of _ (by decide +kernel)) ggL_finishes_X5_finish
theorem dL_finishes_0 : decode cL_finishes 0 = .ok (.aload_n 0, 1) := by decide +kernel
theorem dL_finishes_1 : decode cL_finishes 1 = .ok (.iload_n 1, 1) := by decide +kernel
theorem dL_finishes_2 : decode cL_finishes 2 = .ok (.iload_n 2, 1) := by decide +kernel
theorem dL_finishes_3 : decode cL_finishes 3 = .ok (.invokevirtual 44, 3) := by decide +kernel
theorem dL_finishes_6 : decode cL_finishes 6 = .ok (.iconst 0, 1) := by decide +kernel
theorem dL_finishes_7 : decode cL_finishes 7 = .ok (.ireturn, 1) := by decide +kernel
set_option maxRecDepth 20000 in
theorem ggL_sum_L_has : GoodIn wsL_sum wsL_has := goodIn_r _ [4] (by decide +kernel) (by decide +kernel)
set_option maxRecDepth 20000 in
theorem gL_sum_L_has : GoodIn wsL_sum (va_wsS RL 48 yL_has wsL_has) := goodIn_app (goodIn_of _ (by decide +kernel)) ggL_sum_L_has
set_option maxRecDepth 20000 in
theorem ggL_sum_X5_rating : GoodIn wsL_sum wsX5_rating := goodIn_ca (goodIn_r _ [9, 10, 11, 12, 13, 8, 14, 15, 16, 17, 18, 19, 20, 21, 22, 23, 24, 25, 26, 27, 28, 29, 30, 31, 32, 33, 34, 35, 36, 37, 38, 39, 40, 41, 42, 43, 44, 45, 46, 47, 48, 49, 50, 51, 52, 53, 54, 55] (by decide +kernel) (by decide +kernel)) (goodIn_sub (fun _ h => List.mem_cons_of_mem _ (List.mem_append_right _ h)) (by decide +kernel))
set_option maxRecDepth 20000 in
theorem gL_sum_X5_rating : GoodIn wsL_sum (wsV RL 51 RX5 yX5_rating wsX5_rating) := goodIn_app (goodIn_of _ (by decide +kernel)) ggL_sum_X5_rating
theorem dL_sum_0 : decode cL_sum 0 = .ok (.iconst 0, 1) := by decide +kernel
theorem dL_sum_1 : decode cL_sum 1 = .ok (.istore_n 2, 1) := by decide +kernel
theorem dL_sum_2 : decode cL_sum 2 = .ok (.iconst 0, 1) := by decide +kernel
theorem dL_sum_3 : decode cL_sum 3 = .ok (.istore_n 3, 1) := by decide +kernel
theorem dL_sum_4 : decode cL_sum 4 = .ok (.iload_n 3, 1) := by decide +kernel
theorem dL_sum_5 : decode cL_sum 5 = .ok (.bipush 18, 2) := by decide +kernel
theorem dL_sum_7 : decode cL_sum 7 = .ok (.if_icmp .ge 29, 3) := by decide +kernel
theorem dL_sum_10 : decode cL_sum 10 = .ok (.iload_n 2, 1) := by decide +kernel
theorem dL_sum_11 : decode cL_sum 11 = .ok (.iload_n 1, 1) := by decide +kernel
theorem dL_sum_12 : decode cL_sum 12 = .ok (.iload_n 3, 1) := by decide +kernel
theorem dL_sum_13 : decode cL_sum 13 = .ok (.invokestatic 48, 3) := by decide +kernel
theorem dL_sum_16 : decode cL_sum 16 = .ok (.ifCond .eq 11, 3) := by decide +kernel
theorem dL_sum_19 : decode cL_sum 19 = .ok (.aload_n 0, 1) := by decide +kernel
theorem dL_sum_20 : decode cL_sum 20 = .ok (.iload_n 3, 1) := by decide +kernel
theorem dL_sum_21 : decode cL_sum 21 = .ok (.invokevirtual 51, 3) := by decide +kernel
theorem dL_sum_24 : decode cL_sum 24 = .ok (.goto 4, 3) := by decide +kernel
theorem dL_sum_27 : decode cL_sum 27 = .ok (.iconst 0, 1) := by decide +kernel
theorem dL_sum_28 : decode cL_sum 28 = .ok (.iadd, 1) := by decide +kernel
theorem dL_sum_29 : decode cL_sum 29 = .ok (.istore_n 2, 1) := by decide +kernel
theorem dL_sum_30 : decode cL_sum 30 = .ok (.iinc 3 1, 3) := by decide +kernel
theorem dL_sum_33 : decode cL_sum 33 = .ok (.goto (-29), 3) := by decide +kernel
theorem dL_sum_36 : decode cL_sum 36 = .ok (.iload_n 2, 1) := by decide +kernel
theorem dL_sum_37 : decode cL_sum 37 = .ok (.ireturn, 1) := by decide +kernel
set_option maxRecDepth 20000 in
theorem ggL_fit_L_players : GoodIn wsL_fit wsL_players := goodIn_r _ [4, 5] (by decide +kernel) (by decide +kernel)
set_option maxRecDepth 20000 in
theorem gL_fit_L_players : GoodIn wsL_fit (va_wsS RL 54 yL_players wsL_players) := goodIn_app (goodIn_of _ (by decide +kernel)) ggL_fit_L_players
set_option maxRecDepth 20000 in
theorem ggL_fit_L_sum : GoodIn wsL_fit wsL_sum := goodIn_ca (goodIn_r _ [8, 9, 10, 3, 11, 12, 13, 14, 15, 16, 17, 18, 19, 20, 21, 22, 23, 24, 25, 26, 27, 28, 29, 30, 31, 32, 33, 34, 35, 36, 37, 38, 39, 40, 41, 42, 43, 44, 45, 46, 47, 48, 56, 57, 58, 59, 60, 61, 62, 63, 64, 65, 66, 67, 68, 69] (by decide +kernel) (by decide +kernel)) (goodIn_sub (fun _ h => List.mem_cons_of_mem _ (List.mem_append_right _ h)) (by decide +kernel))
set_option maxRecDepth 20000 in
theorem gL_fit_L_sum : GoodIn wsL_fit (va_wsS RL 58 yL_sum wsL_sum) := goodIn_app (goodIn_of _ (by decide +kernel)) ggL_fit_L_sum
set_option maxRecDepth 20000 in
theorem ggL_fit_L_size : GoodIn wsL_fit wsL_size := goodIn_r _ [51] (by decide +kernel) (by decide +kernel)
set_option maxRecDepth 20000 in
theorem gL_fit_L_size : GoodIn wsL_fit (va_wsS RL 62 yL_size wsL_size) := goodIn_app (goodIn_of _ (by decide +kernel)) ggL_fit_L_size
set_option maxRecDepth 20000 in
theorem ggL_fit_L_since : GoodIn wsL_fit wsL_since := goodIn_r _ [54, 55] (by decide +kernel) (by decide +kernel)
set_option maxRecDepth 20000 in
theorem gL_fit_L_since : GoodIn wsL_fit (va_wsS RL 65 yL_since wsL_since) := goodIn_app (goodIn_of _ (by decide +kernel)) ggL_fit_L_since
theorem dL_fit_0 : decode cL_fit 0 = .ok (.aload_n 0, 1) := by decide +kernel
theorem dL_fit_1 : decode cL_fit 1 = .ok (.aload_n 1, 1) := by decide +kernel
theorem dL_fit_2 : decode cL_fit 2 = .ok (.iload_n 3, 1) := by decide +kernel
theorem dL_fit_3 : decode cL_fit 3 = .ok (.invokestatic 54, 3) := by decide +kernel
theorem dL_fit_6 : decode cL_fit 6 = .ok (.invokestatic 58, 3) := by decide +kernel
theorem dL_fit_9 : decode cL_fit 9 = .ok (.aload_n 1, 1) := by decide +kernel
theorem dL_fit_10 : decode cL_fit 10 = .ok (.iload_n 3, 1) := by decide +kernel
theorem dL_fit_11 : decode cL_fit 11 = .ok (.invokestatic 54, 3) := by decide +kernel
theorem dL_fit_14 : decode cL_fit 14 = .ok (.invokestatic 62, 3) := by decide +kernel
theorem dL_fit_17 : decode cL_fit 17 = .ok (.idiv, 1) := by decide +kernel
theorem dL_fit_18 : decode cL_fit 18 = .ok (.aload_n 0, 1) := by decide +kernel
theorem dL_fit_19 : decode cL_fit 19 = .ok (.aload_n 1, 1) := by decide +kernel
theorem dL_fit_20 : decode cL_fit 20 = .ok (.iload 4, 2) := by decide +kernel
theorem dL_fit_22 : decode cL_fit 22 = .ok (.invokestatic 54, 3) := by decide +kernel
theorem dL_fit_25 : decode cL_fit 25 = .ok (.invokestatic 58, 3) := by decide +kernel
theorem dL_fit_28 : decode cL_fit 28 = .ok (.aload_n 1, 1) := by decide +kernel
theorem dL_fit_29 : decode cL_fit 29 = .ok (.iload 4, 2) := by decide +kernel
theorem dL_fit_31 : decode cL_fit 31 = .ok (.invokestatic 54, 3) := by decide +kernel
theorem dL_fit_34 : decode cL_fit 34 = .ok (.invokestatic 62, 3) := by decide +kernel
theorem dL_fit_37 : decode cL_fit 37 = .ok (.idiv, 1) := by decide +kernel
theorem dL_fit_38 : decode cL_fit 38 = .ok (.isub, 1) := by decide +kernel
theorem dL_fit_39 : decode cL_fit 39 = .ok (.istore 5, 2) := by decide +kernel
theorem dL_fit_41 : decode cL_fit 41 = .ok (.iload 5, 2) := by decide +kernel
theorem dL_fit_43 : decode cL_fit 43 = .ok (.ifCond .ge 9, 3) := by decide +kernel
theorem dL_fit_46 : decode cL_fit 46 = .ok (.iload 5, 2) := by decide +kernel
theorem dL_fit_48 : decode cL_fit 48 = .ok (.ineg, 1) := by decide +kernel
theorem dL_fit_49 : decode cL_fit 49 = .ok (.goto 5, 3) := by decide +kernel
theorem dL_fit_52 : decode cL_fit 52 = .ok (.iload 5, 2) := by decide +kernel
theorem dL_fit_54 : decode cL_fit 54 = .ok (.istore 5, 2) := by decide +kernel
theorem dL_fit_56 : decode cL_fit 56 = .ok (.iload 5, 2) := by decide +kernel
theorem dL_fit_58 : decode cL_fit 58 = .ok (.bipush 100, 2) := by decide +kernel
theorem dL_fit_60 : decode cL_fit 60 = .ok (.bipush 20, 2) := by decide +kernel
theorem dL_fit_62 : decode cL_fit 62 = .ok (.aload_n 2, 1) := by decide +kernel
theorem dL_fit_63 : decode cL_fit 63 = .ok (.iconst 0, 1) := by decide +kernel
theorem dL_fit_64 : decode cL_fit 64 = .ok (.iaload, 1) := by decide +kernel
theorem dL_fit_65 : decode cL_fit 65 = .ok (.aload_n 1, 1) := by decide +kernel
theorem dL_fit_66 : decode cL_fit 66 = .ok (.iload_n 3, 1) := by decide +kernel
theorem dL_fit_67 : decode cL_fit 67 = .ok (.invokestatic 65, 3) := by decide +kernel
theorem dL_fit_70 : decode cL_fit 70 = .ok (.isub, 1) := by decide +kernel
theorem dL_fit_71 : decode cL_fit 71 = .ok (.imul, 1) := by decide +kernel
theorem dL_fit_72 : decode cL_fit 72 = .ok (.iadd, 1) := by decide +kernel
theorem dL_fit_73 : decode cL_fit 73 = .ok (.if_icmp .gt 28, 3) := by decide +kernel
theorem dL_fit_76 : decode cL_fit 76 = .ok (.iload 5, 2) := by decide +kernel
theorem dL_fit_78 : decode cL_fit 78 = .ok (.bipush 100, 2) := by decide +kernel
theorem dL_fit_80 : decode cL_fit 80 = .ok (.bipush 20, 2) := by decide +kernel
theorem dL_fit_82 : decode cL_fit 82 = .ok (.aload_n 2, 1) := by decide +kernel
theorem dL_fit_83 : decode cL_fit 83 = .ok (.iconst 0, 1) := by decide +kernel
theorem dL_fit_84 : decode cL_fit 84 = .ok (.iaload, 1) := by decide +kernel
theorem dL_fit_85 : decode cL_fit 85 = .ok (.aload_n 1, 1) := by decide +kernel
theorem dL_fit_86 : decode cL_fit 86 = .ok (.iload 4, 2) := by decide +kernel
theorem dL_fit_88 : decode cL_fit 88 = .ok (.invokestatic 65, 3) := by decide +kernel
theorem dL_fit_91 : decode cL_fit 91 = .ok (.isub, 1) := by decide +kernel
theorem dL_fit_92 : decode cL_fit 92 = .ok (.imul, 1) := by decide +kernel
theorem dL_fit_93 : decode cL_fit 93 = .ok (.iadd, 1) := by decide +kernel
theorem dL_fit_94 : decode cL_fit 94 = .ok (.if_icmp .gt 7, 3) := by decide +kernel
theorem dL_fit_97 : decode cL_fit 97 = .ok (.iconst 1, 1) := by decide +kernel
theorem dL_fit_98 : decode cL_fit 98 = .ok (.goto 4, 3) := by decide +kernel
theorem dL_fit_101 : decode cL_fit 101 = .ok (.iconst 0, 1) := by decide +kernel
theorem dL_fit_102 : decode cL_fit 102 = .ok (.ireturn, 1) := by decide +kernel
set_option maxRecDepth 20000 in
theorem ggL_isLobby_X5_clock : GoodIn wsL_isLobby wsX5_clock := goodIn_r _ [6, 7, 373, 374, 375, 376, 377] (by decide +kernel) (by decide +kernel)
set_option maxRecDepth 20000 in
theorem gL_isLobby_X5_clock : GoodIn wsL_isLobby (wsV RL 68 RX5 yX5_clock wsX5_clock) := goodIn_app (goodIn_of _ (by decide +kernel)) ggL_isLobby_X5_clock
set_option maxRecDepth 20000 in
theorem ggL_isLobby_X5_players : GoodIn wsL_isLobby wsX5_players := goodIn_r _ [11, 12, 13, 14, 15, 16, 17, 18, 373, 374, 375, 376, 377, 378, 379, 380] (by decide +kernel) (by decide +kernel)
set_option maxRecDepth 20000 in
theorem gL_isLobby_X5_players : GoodIn wsL_isLobby (wsV RL 72 RX5 yX5_players wsX5_players) := goodIn_app (goodIn_of _ (by decide +kernel)) ggL_isLobby_X5_players
set_option maxRecDepth 20000 in
theorem ggL_isLobby_X5_matches : GoodIn wsL_isLobby wsX5_matches := goodIn_r _ [22, 23, 13, 14, 15, 16, 17, 18, 373, 374, 375, 376, 377, 378, 379, 380] (by decide +kernel) (by decide +kernel)
set_option maxRecDepth 20000 in
theorem gL_isLobby_X5_matches : GoodIn wsL_isLobby (wsV RL 74 RX5 yX5_matches wsX5_matches) := goodIn_app (goodIn_of _ (by decide +kernel)) ggL_isLobby_X5_matches
set_option maxRecDepth 20000 in
theorem ggL_isLobby_L_queues : GoodIn wsL_isLobby wsL_queues := goodIn_r _ [27] (by decide +kernel) (by decide +kernel)
set_option maxRecDepth 20000 in
theorem gL_isLobby_L_queues : GoodIn wsL_isLobby (va_wsS RL 77 yL_queues wsL_queues) := goodIn_app (goodIn_of _ (by decide +kernel)) ggL_isLobby_L_queues
set_option maxRecDepth 20000 in
theorem ggL_isLobby_L_players : GoodIn wsL_isLobby wsL_players := goodIn_r _ [30, 31] (by decide +kernel) (by decide +kernel)
set_option maxRecDepth 20000 in
theorem gL_isLobby_L_players : GoodIn wsL_isLobby (va_wsS RL 54 yL_players wsL_players) := goodIn_app (goodIn_of _ (by decide +kernel)) ggL_isLobby_L_players
set_option maxRecDepth 20000 in
theorem ggL_isLobby_L_asks : GoodIn wsL_isLobby wsL_asks := goodIn_ca (goodIn_ca (goodIn_ca (goodIn_r _ [34, 35, 36, 37, 38, 39, 5, 40, 41, 42, 43, 44, 12, 45, 46, 47, 48, 7, 49, 50, 51, 52, 53, 54, 55, 56, 13, 14, 15, 16, 17, 18, 57, 58, 59, 60, 61, 62, 63, 64, 65, 66, 67, 68, 69, 70, 71, 72, 73, 74, 75, 76, 77, 78, 79, 80, 81, 82, 83, 84, 85, 86, 87, 88, 89, 90, 91, 92, 93, 94, 95, 96, 97, 98, 99, 100, 101, 102, 103, 104, 105, 106, 107, 108, 109, 110, 111, 112, 113, 114, 115, 116, 117, 118, 119, 120, 121, 122, 123, 124, 125, 126, 127, 128, 129, 130, 131, 132, 133, 134, 135, 136, 137, 138, 139, 140, 141, 142, 143, 144, 145, 146, 147, 148, 149, 150, 151, 152, 153, 154, 155, 156, 157, 158, 159, 160, 161, 162, 163, 164, 165, 166, 167, 168, 169, 170, 171, 172, 173, 174, 175, 176, 177, 178, 179, 180, 181, 182, 183, 184, 185, 186, 187, 188, 189, 190, 191, 192, 193, 194, 195, 196, 197, 198, 199, 200, 201, 202, 203, 204, 205, 206, 207, 208, 23, 209, 210, 211, 212, 213, 214, 215, 216, 217, 218, 219, 220, 221, 222, 223, 224, 225, 226, 227, 228, 229, 230, 231, 232, 233, 234, 235, 236, 237, 238, 239, 240, 241, 242, 243, 244, 245, 246, 247, 248, 249, 250, 26, 251, 252, 253, 254, 255, 256, 257, 258, 259, 260, 261, 262, 263, 264, 265, 266, 267, 268, 269, 270, 271, 272, 273, 274, 275, 276, 277, 278, 279, 280, 281, 282, 283, 284, 285, 286, 287, 288, 289, 290, 291, 292, 293, 294, 295, 296, 297, 298, 373, 374, 375, 376, 377, 381, 382, 383, 384, 385, 378, 379, 380, 386, 387, 388, 389, 390, 391, 392, 393, 394, 395, 396, 397, 398] (by decide +kernel) (by decide +kernel)) (goodIn_sub (fun _ h => List.mem_cons_of_mem _ (List.mem_append_left _ (List.mem_append_left _ (List.mem_append_right _ h)))) (by decide +kernel))) (goodIn_sub (fun _ h => List.mem_cons_of_mem _ (List.mem_append_left _ (List.mem_append_right _ h))) (by decide +kernel))) (goodIn_sub (fun _ h => List.mem_cons_of_mem _ (List.mem_append_right _ h)) (by decide +kernel))
set_option maxRecDepth 20000 in
theorem gL_isLobby_L_asks : GoodIn wsL_isLobby (va_wsS RL 81 yL_asks wsL_asks) := goodIn_app (goodIn_of _ (by decide +kernel)) ggL_isLobby_L_asks
set_option maxRecDepth 20000 in
theorem ggL_isLobby_L_since : GoodIn wsL_isLobby wsL_since := goodIn_r _ [301, 302] (by decide +kernel) (by decide +kernel)
set_option maxRecDepth 20000 in
theorem gL_isLobby_L_since : GoodIn wsL_isLobby (va_wsS RL 65 yL_since wsL_since) := goodIn_app (goodIn_of _ (by decide +kernel)) ggL_isLobby_L_since
set_option maxRecDepth 20000 in
theorem ggL_isLobby_X5_matchState : GoodIn wsL_isLobby wsX5_matchState := goodIn_ca (goodIn_r _ [306, 200, 205, 206, 207, 5, 208, 193, 194, 23, 209, 13, 14, 15, 16, 17, 18, 62, 63, 64, 65, 66, 67, 68, 69, 70, 71, 72, 73, 74, 75, 76, 77, 78, 392, 393, 394, 395, 396, 397, 398, 373, 374, 375, 376, 377, 378, 379, 380] (by decide +kernel) (by decide +kernel)) (goodIn_sub (fun _ h => List.mem_cons_of_mem _ (List.mem_append_right _ h)) (by decide +kernel))
set_option maxRecDepth 20000 in
theorem gL_isLobby_X5_matchState : GoodIn wsL_isLobby (wsV RL 85 RX5 yX5_matchState wsX5_matchState) := goodIn_app (goodIn_of _ (by decide +kernel)) ggL_isLobby_X5_matchState
set_option maxRecDepth 20000 in
theorem ggL_isLobby_X5_team : GoodIn wsL_isLobby wsX5_team := goodIn_ca (goodIn_ca (goodIn_r _ [310, 256, 257, 205, 206, 207, 5, 208, 193, 194, 23, 209, 13, 14, 15, 16, 17, 18, 62, 63, 64, 65, 66, 67, 68, 69, 70, 71, 72, 73, 74, 75, 76, 77, 78, 258, 259, 260, 41, 42, 392, 393, 394, 395, 396, 397, 398, 373, 374, 375, 376, 377, 378, 379, 380] (by decide +kernel) (by decide +kernel)) (goodIn_sub (fun _ h => List.mem_cons_of_mem _ (List.mem_append_right _ h)) (by decide +kernel))) (goodIn_sub (fun _ h => List.mem_cons_of_mem _ (List.mem_append_left _ (List.mem_append_left _ (List.mem_append_right _ h)))) (by decide +kernel))
set_option maxRecDepth 20000 in
theorem gL_isLobby_X5_team : GoodIn wsL_isLobby (wsV RL 88 RX5 yX5_team wsX5_team) := goodIn_app (goodIn_of _ (by decide +kernel)) ggL_isLobby_X5_team
set_option maxRecDepth 20000 in
theorem ggL_isLobby_X5_state : GoodIn wsL_isLobby wsX5_state := goodIn_ca (goodIn_r _ [314, 210, 211, 212, 5, 213, 193, 194, 12, 49, 13, 14, 15, 16, 17, 18, 62, 63, 64, 65, 66, 67, 68, 69, 70, 71, 72, 73, 74, 75, 76, 77, 78, 82, 83, 84, 85, 86, 87, 88, 373, 374, 375, 376, 377, 378, 379, 380, 386, 387, 388, 389, 390, 391, 381, 382, 383, 384, 385] (by decide +kernel) (by decide +kernel)) (goodIn_sub (fun _ h => List.mem_cons_of_mem _ (List.mem_append_right _ h)) (by decide +kernel))
set_option maxRecDepth 20000 in
theorem gL_isLobby_X5_state : GoodIn wsL_isLobby (wsV RL 92 RX5 yX5_state wsX5_state) := goodIn_app (goodIn_of _ (by decide +kernel)) ggL_isLobby_X5_state
set_option maxRecDepth 20000 in
theorem ggL_isLobby_L_has : GoodIn wsL_isLobby wsL_has := goodIn_r _ [317] (by decide +kernel) (by decide +kernel)
set_option maxRecDepth 20000 in
theorem gL_isLobby_L_has : GoodIn wsL_isLobby (va_wsS RL 48 yL_has wsL_has) := goodIn_app (goodIn_of _ (by decide +kernel)) ggL_isLobby_L_has
set_option maxRecDepth 20000 in
theorem ggL_isLobby_X5_rating : GoodIn wsL_isLobby wsX5_rating := goodIn_ca (goodIn_r _ [321, 271, 210, 211, 212, 5, 213, 193, 194, 12, 49, 13, 14, 15, 16, 17, 18, 62, 63, 64, 65, 66, 67, 68, 69, 70, 71, 72, 73, 74, 75, 76, 77, 78, 386, 387, 388, 389, 390, 391, 373, 374, 375, 376, 377, 378, 379, 380] (by decide +kernel) (by decide +kernel)) (goodIn_sub (fun _ h => List.mem_cons_of_mem _ (List.mem_append_right _ h)) (by decide +kernel))
set_option maxRecDepth 20000 in
theorem gL_isLobby_X5_rating : GoodIn wsL_isLobby (wsV RL 51 RX5 yX5_rating wsX5_rating) := goodIn_app (goodIn_of _ (by decide +kernel)) ggL_isLobby_X5_rating
set_option maxRecDepth 20000 in
theorem ggL_isLobby_X5_uncertainty : GoodIn wsL_isLobby wsX5_uncertainty := goodIn_ca (goodIn_r _ [325, 326, 210, 211, 212, 5, 213, 193, 194, 12, 49, 13, 14, 15, 16, 17, 18, 62, 63, 64, 65, 66, 67, 68, 69, 70, 71, 72, 73, 74, 75, 76, 77, 78, 386, 387, 388, 389, 390, 391, 373, 374, 375, 376, 377, 378, 379, 380] (by decide +kernel) (by decide +kernel)) (goodIn_sub (fun _ h => List.mem_cons_of_mem _ (List.mem_append_right _ h)) (by decide +kernel))
set_option maxRecDepth 20000 in
theorem gL_isLobby_X5_uncertainty : GoodIn wsL_isLobby (wsV RL 95 RX5 yX5_uncertainty wsX5_uncertainty) := goodIn_app (goodIn_of _ (by decide +kernel)) ggL_isLobby_X5_uncertainty
set_option maxRecDepth 20000 in
theorem ggL_isLobby_X5_level : GoodIn wsL_isLobby wsX5_level := goodIn_ca (goodIn_r _ [330, 331, 210, 211, 212, 5, 213, 193, 194, 12, 49, 13, 14, 15, 16, 17, 18, 62, 63, 64, 65, 66, 67, 68, 69, 70, 71, 72, 73, 74, 75, 76, 77, 78, 386, 387, 388, 389, 390, 391, 373, 374, 375, 376, 377, 378, 379, 380] (by decide +kernel) (by decide +kernel)) (goodIn_sub (fun _ h => List.mem_cons_of_mem _ (List.mem_append_right _ h)) (by decide +kernel))
set_option maxRecDepth 20000 in
theorem gL_isLobby_X5_level : GoodIn wsL_isLobby (wsV RL 98 RX5 yX5_level wsX5_level) := goodIn_app (goodIn_of _ (by decide +kernel)) ggL_isLobby_X5_level
set_option maxRecDepth 20000 in
theorem ggL_isLobby_X5_barred : GoodIn wsL_isLobby wsX5_barred := goodIn_ca (goodIn_r _ [335, 61, 7, 265, 141, 142, 143, 210, 211, 212, 5, 213, 193, 194, 12, 49, 13, 14, 15, 16, 17, 18, 62, 63, 64, 65, 66, 67, 68, 69, 70, 71, 72, 73, 74, 75, 76, 77, 78, 386, 387, 388, 389, 390, 391, 373, 374, 375, 376, 377, 378, 379, 380] (by decide +kernel) (by decide +kernel)) (goodIn_sub (fun _ h => List.mem_cons_of_mem _ (List.mem_append_right _ h)) (by decide +kernel))
set_option maxRecDepth 20000 in
theorem gL_isLobby_X5_barred : GoodIn wsL_isLobby (wsV RL 101 RX5 yX5_barred wsX5_barred) := goodIn_app (goodIn_of _ (by decide +kernel)) ggL_isLobby_X5_barred
set_option maxRecDepth 20000 in
theorem ggL_isLobby_X5_queued : GoodIn wsL_isLobby wsX5_queued := goodIn_r _ [339, 45, 195, 183, 13, 14, 15, 16, 17, 18, 62, 63, 64, 65, 66, 67, 68, 69, 70, 71, 72, 73, 74, 75, 76, 77, 78, 373, 374, 375, 376, 377, 381, 382, 383, 384, 385, 378, 379, 380] (by decide +kernel) (by decide +kernel)
set_option maxRecDepth 20000 in
theorem gL_isLobby_X5_queued : GoodIn wsL_isLobby (wsV RL 104 RX5 yX5_queued wsX5_queued) := goodIn_app (goodIn_of _ (by decide +kernel)) ggL_isLobby_X5_queued
set_option maxRecDepth 20000 in
theorem ggL_isLobby_X5_fit : GoodIn wsL_isLobby wsX5_fit := goodIn_ca (goodIn_ca (goodIn_r _ [343, 7, 189, 190, 191, 5, 192, 193, 194, 45, 195, 13, 14, 15, 16, 17, 18, 62, 63, 64, 65, 66, 67, 68, 69, 70, 71, 72, 73, 74, 75, 76, 77, 78, 185, 186, 187, 188, 43, 44, 183, 344, 345, 346, 48, 347, 348, 349, 142, 350, 351, 352, 353, 354, 99, 355, 356, 357, 358, 359, 360, 361, 362, 363, 296, 297, 298, 96, 373, 374, 375, 376, 377, 378, 379, 380, 381, 382, 383, 384, 385, 386, 387, 388, 389, 390, 391] (by decide +kernel) (by decide +kernel)) (goodIn_sub (fun _ h => List.mem_cons_of_mem _ (List.mem_append_right _ h)) (by decide +kernel))) (goodIn_sub (fun _ h => List.mem_cons_of_mem _ (List.mem_append_left _ (List.mem_append_right _ h))) (by decide +kernel))
set_option maxRecDepth 20000 in
theorem gL_isLobby_X5_fit : GoodIn wsL_isLobby (wsV RL 107 RX5 yX5_fit wsX5_fit) := goodIn_app (goodIn_of _ (by decide +kernel)) ggL_isLobby_X5_fit
set_option maxRecDepth 20000 in
theorem ggL_isLobby_L_fit : GoodIn wsL_isLobby wsL_fit := goodIn_ca (goodIn_r _ [366, 28, 29, 26, 30, 31, 367, 368, 369, 315, 316, 317, 318, 319, 320, 5, 321, 271, 210, 211, 212, 213, 193, 194, 12, 49, 13, 14, 15, 16, 17, 18, 62, 63, 64, 65, 66, 67, 68, 69, 70, 71, 72, 73, 74, 75, 76, 77, 78, 370, 371, 372, 299, 300, 301, 302, 386, 387, 388, 389, 390, 391, 373, 374, 375, 376, 377, 378, 379, 380] (by decide +kernel) (by decide +kernel)) (goodIn_sub (fun _ h => List.mem_cons_of_mem _ (List.mem_append_right _ h)) (by decide +kernel))
set_option maxRecDepth 20000 in
theorem gL_isLobby_L_fit : GoodIn wsL_isLobby (va_wsS RL 110 yL_fit wsL_fit) := goodIn_app (goodIn_of _ (by decide +kernel)) ggL_isLobby_L_fit
theorem dL_isLobby_0 : decode cL_isLobby 0 = .ok (.iconst 0, 1) := by decide +kernel
theorem dL_isLobby_1 : decode cL_isLobby 1 = .ok (.istore 6, 2) := by decide +kernel
theorem dL_isLobby_3 : decode cL_isLobby 3 = .ok (.iconst 0, 1) := by decide +kernel
theorem dL_isLobby_4 : decode cL_isLobby 4 = .ok (.istore 7, 2) := by decide +kernel
theorem dL_isLobby_6 : decode cL_isLobby 6 = .ok (.iconst 0, 1) := by decide +kernel
theorem dL_isLobby_7 : decode cL_isLobby 7 = .ok (.istore 8, 2) := by decide +kernel
theorem dL_isLobby_9 : decode cL_isLobby 9 = .ok (.aload_n 0, 1) := by decide +kernel
theorem dL_isLobby_10 : decode cL_isLobby 10 = .ok (.invokevirtual 68, 3) := by decide +kernel
theorem dL_isLobby_13 : decode cL_isLobby 13 = .ok (.aload 4, 2) := by decide +kernel
theorem dL_isLobby_15 : decode cL_isLobby 15 = .ok (.iconst 0, 1) := by decide +kernel
theorem dL_isLobby_16 : decode cL_isLobby 16 = .ok (.iaload, 1) := by decide +kernel
theorem dL_isLobby_17 : decode cL_isLobby 17 = .ok (.if_icmp .ne 29, 3) := by decide +kernel
theorem dL_isLobby_20 : decode cL_isLobby 20 = .ok (.aload_n 0, 1) := by decide +kernel
theorem dL_isLobby_21 : decode cL_isLobby 21 = .ok (.invokevirtual 72, 3) := by decide +kernel
theorem dL_isLobby_24 : decode cL_isLobby 24 = .ok (.aload 4, 2) := by decide +kernel
theorem dL_isLobby_26 : decode cL_isLobby 26 = .ok (.iconst 1, 1) := by decide +kernel
theorem dL_isLobby_27 : decode cL_isLobby 27 = .ok (.iaload, 1) := by decide +kernel
theorem dL_isLobby_28 : decode cL_isLobby 28 = .ok (.if_icmp .ne 18, 3) := by decide +kernel
theorem dL_isLobby_31 : decode cL_isLobby 31 = .ok (.aload_n 0, 1) := by decide +kernel
theorem dL_isLobby_32 : decode cL_isLobby 32 = .ok (.invokevirtual 74, 3) := by decide +kernel
theorem dL_isLobby_35 : decode cL_isLobby 35 = .ok (.aload 4, 2) := by decide +kernel
theorem dL_isLobby_37 : decode cL_isLobby 37 = .ok (.iconst 3, 1) := by decide +kernel
theorem dL_isLobby_38 : decode cL_isLobby 38 = .ok (.iaload, 1) := by decide +kernel
theorem dL_isLobby_39 : decode cL_isLobby 39 = .ok (.if_icmp .ne 7, 3) := by decide +kernel
theorem dL_isLobby_42 : decode cL_isLobby 42 = .ok (.iconst 1, 1) := by decide +kernel
theorem dL_isLobby_43 : decode cL_isLobby 43 = .ok (.goto 4, 3) := by decide +kernel
theorem dL_isLobby_46 : decode cL_isLobby 46 = .ok (.iconst 0, 1) := by decide +kernel
theorem dL_isLobby_47 : decode cL_isLobby 47 = .ok (.istore 9, 2) := by decide +kernel
theorem dL_isLobby_49 : decode cL_isLobby 49 = .ok (.iconst 0, 1) := by decide +kernel
theorem dL_isLobby_50 : decode cL_isLobby 50 = .ok (.istore 10, 2) := by decide +kernel
theorem dL_isLobby_52 : decode cL_isLobby 52 = .ok (.iload 10, 2) := by decide +kernel
theorem dL_isLobby_54 : decode cL_isLobby 54 = .ok (.aload 4, 2) := by decide +kernel
theorem dL_isLobby_56 : decode cL_isLobby 56 = .ok (.iconst 2, 1) := by decide +kernel
theorem dL_isLobby_57 : decode cL_isLobby 57 = .ok (.iaload, 1) := by decide +kernel
theorem dL_isLobby_58 : decode cL_isLobby 58 = .ok (.if_icmp .ge 106, 3) := by decide +kernel
theorem dL_isLobby_61 : decode cL_isLobby 61 = .ok (.iload 6, 2) := by decide +kernel
theorem dL_isLobby_63 : decode cL_isLobby 63 = .ok (.aload_n 1, 1) := by decide +kernel
theorem dL_isLobby_64 : decode cL_isLobby 64 = .ok (.iload 10, 2) := by decide +kernel
theorem dL_isLobby_66 : decode cL_isLobby 66 = .ok (.invokestatic 77, 3) := by decide +kernel
theorem dL_isLobby_69 : decode cL_isLobby 69 = .ok (.ifCond .eq 7, 3) := by decide +kernel
theorem dL_isLobby_72 : decode cL_isLobby 72 = .ok (.iconst 1, 1) := by decide +kernel
theorem dL_isLobby_73 : decode cL_isLobby 73 = .ok (.goto 4, 3) := by decide +kernel
theorem dL_isLobby_76 : decode cL_isLobby 76 = .ok (.iconst 0, 1) := by decide +kernel
theorem dL_isLobby_77 : decode cL_isLobby 77 = .ok (.iadd, 1) := by decide +kernel
theorem dL_isLobby_78 : decode cL_isLobby 78 = .ok (.istore 6, 2) := by decide +kernel
theorem dL_isLobby_80 : decode cL_isLobby 80 = .ok (.iload 7, 2) := by decide +kernel
theorem dL_isLobby_82 : decode cL_isLobby 82 = .ok (.aload_n 1, 1) := by decide +kernel
theorem dL_isLobby_83 : decode cL_isLobby 83 = .ok (.iload 10, 2) := by decide +kernel
theorem dL_isLobby_85 : decode cL_isLobby 85 = .ok (.invokestatic 77, 3) := by decide +kernel
theorem dL_isLobby_88 : decode cL_isLobby 88 = .ok (.ifCond .eq 12, 3) := by decide +kernel
theorem dL_isLobby_91 : decode cL_isLobby 91 = .ok (.aload_n 1, 1) := by decide +kernel
theorem dL_isLobby_92 : decode cL_isLobby 92 = .ok (.iload 10, 2) := by decide +kernel
theorem dL_isLobby_94 : decode cL_isLobby 94 = .ok (.invokestatic 54, 3) := by decide +kernel
theorem dL_isLobby_97 : decode cL_isLobby 97 = .ok (.goto 4, 3) := by decide +kernel
theorem dL_isLobby_100 : decode cL_isLobby 100 = .ok (.iconst 0, 1) := by decide +kernel
theorem dL_isLobby_101 : decode cL_isLobby 101 = .ok (.ior, 1) := by decide +kernel
theorem dL_isLobby_102 : decode cL_isLobby 102 = .ok (.istore 7, 2) := by decide +kernel
theorem dL_isLobby_104 : decode cL_isLobby 104 = .ok (.iload 9, 2) := by decide +kernel
theorem dL_isLobby_106 : decode cL_isLobby 106 = .ok (.ifCond .eq 49, 3) := by decide +kernel
theorem dL_isLobby_109 : decode cL_isLobby 109 = .ok (.aload_n 0, 1) := by decide +kernel
theorem dL_isLobby_110 : decode cL_isLobby 110 = .ok (.iconst 5, 1) := by decide +kernel
theorem dL_isLobby_111 : decode cL_isLobby 111 = .ok (.iload 10, 2) := by decide +kernel
theorem dL_isLobby_113 : decode cL_isLobby 113 = .ok (.iconst 0, 1) := by decide +kernel
theorem dL_isLobby_114 : decode cL_isLobby 114 = .ok (.invokestatic 81, 3) := by decide +kernel
theorem dL_isLobby_117 : decode cL_isLobby 117 = .ok (.aload_n 1, 1) := by decide +kernel
theorem dL_isLobby_118 : decode cL_isLobby 118 = .ok (.iload 10, 2) := by decide +kernel
theorem dL_isLobby_120 : decode cL_isLobby 120 = .ok (.invokestatic 77, 3) := by decide +kernel
theorem dL_isLobby_123 : decode cL_isLobby 123 = .ok (.ifCond .eq 23, 3) := by decide +kernel
theorem dL_isLobby_126 : decode cL_isLobby 126 = .ok (.bipush 100, 2) := by decide +kernel
theorem dL_isLobby_128 : decode cL_isLobby 128 = .ok (.bipush 20, 2) := by decide +kernel
theorem dL_isLobby_130 : decode cL_isLobby 130 = .ok (.aload 4, 2) := by decide +kernel
theorem dL_isLobby_132 : decode cL_isLobby 132 = .ok (.iconst 0, 1) := by decide +kernel
theorem dL_isLobby_133 : decode cL_isLobby 133 = .ok (.iaload, 1) := by decide +kernel
theorem dL_isLobby_134 : decode cL_isLobby 134 = .ok (.aload_n 1, 1) := by decide +kernel
theorem dL_isLobby_135 : decode cL_isLobby 135 = .ok (.iload 10, 2) := by decide +kernel
theorem dL_isLobby_137 : decode cL_isLobby 137 = .ok (.invokestatic 65, 3) := by decide +kernel
theorem dL_isLobby_140 : decode cL_isLobby 140 = .ok (.isub, 1) := by decide +kernel
theorem dL_isLobby_141 : decode cL_isLobby 141 = .ok (.imul, 1) := by decide +kernel
theorem dL_isLobby_142 : decode cL_isLobby 142 = .ok (.iadd, 1) := by decide +kernel
theorem dL_isLobby_143 : decode cL_isLobby 143 = .ok (.goto 5, 3) := by decide +kernel
theorem dL_isLobby_146 : decode cL_isLobby 146 = .ok (.bipush (-8), 2) := by decide +kernel
theorem dL_isLobby_148 : decode cL_isLobby 148 = .ok (.if_icmp .ne 7, 3) := by decide +kernel
theorem dL_isLobby_151 : decode cL_isLobby 151 = .ok (.iconst 1, 1) := by decide +kernel
theorem dL_isLobby_152 : decode cL_isLobby 152 = .ok (.goto 4, 3) := by decide +kernel
theorem dL_isLobby_155 : decode cL_isLobby 155 = .ok (.iconst 0, 1) := by decide +kernel
theorem dL_isLobby_156 : decode cL_isLobby 156 = .ok (.istore 9, 2) := by decide +kernel
theorem dL_isLobby_158 : decode cL_isLobby 158 = .ok (.iinc 10 1, 3) := by decide +kernel
theorem dL_isLobby_161 : decode cL_isLobby 161 = .ok (.goto (-109), 3) := by decide +kernel
theorem dL_isLobby_164 : decode cL_isLobby 164 = .ok (.iconst 0, 1) := by decide +kernel
theorem dL_isLobby_165 : decode cL_isLobby 165 = .ok (.istore 10, 2) := by decide +kernel
theorem dL_isLobby_167 : decode cL_isLobby 167 = .ok (.iload 10, 2) := by decide +kernel
theorem dL_isLobby_169 : decode cL_isLobby 169 = .ok (.aload 4, 2) := by decide +kernel
theorem dL_isLobby_171 : decode cL_isLobby 171 = .ok (.iconst 3, 1) := by decide +kernel
theorem dL_isLobby_172 : decode cL_isLobby 172 = .ok (.iaload, 1) := by decide +kernel
theorem dL_isLobby_173 : decode cL_isLobby 173 = .ok (.if_icmp .ge 108, 3) := by decide +kernel
theorem dL_isLobby_176 : decode cL_isLobby 176 = .ok (.aload_n 2, 1) := by decide +kernel
theorem dL_isLobby_177 : decode cL_isLobby 177 = .ok (.iload 10, 2) := by decide +kernel
theorem dL_isLobby_179 : decode cL_isLobby 179 = .ok (.iaload, 1) := by decide +kernel
theorem dL_isLobby_180 : decode cL_isLobby 180 = .ok (.bipush 18, 2) := by decide +kernel
theorem dL_isLobby_182 : decode cL_isLobby 182 = .ok (.ishr, 1) := by decide +kernel
theorem dL_isLobby_183 : decode cL_isLobby 183 = .ok (.iconst 3, 1) := by decide +kernel
theorem dL_isLobby_184 : decode cL_isLobby 184 = .ok (.iand, 1) := by decide +kernel
theorem dL_isLobby_185 : decode cL_isLobby 185 = .ok (.istore 11, 2) := by decide +kernel
theorem dL_isLobby_187 : decode cL_isLobby 187 = .ok (.iload 9, 2) := by decide +kernel
theorem dL_isLobby_189 : decode cL_isLobby 189 = .ok (.ifCond .eq 61, 3) := by decide +kernel
theorem dL_isLobby_192 : decode cL_isLobby 192 = .ok (.aload_n 0, 1) := by decide +kernel
theorem dL_isLobby_193 : decode cL_isLobby 193 = .ok (.iload 10, 2) := by decide +kernel
theorem dL_isLobby_195 : decode cL_isLobby 195 = .ok (.invokevirtual 85, 3) := by decide +kernel
theorem dL_isLobby_198 : decode cL_isLobby 198 = .ok (.iload 11, 2) := by decide +kernel
theorem dL_isLobby_200 : decode cL_isLobby 200 = .ok (.if_icmp .ne 50, 3) := by decide +kernel
theorem dL_isLobby_203 : decode cL_isLobby 203 = .ok (.aload_n 0, 1) := by decide +kernel
theorem dL_isLobby_204 : decode cL_isLobby 204 = .ok (.iload 10, 2) := by decide +kernel
theorem dL_isLobby_206 : decode cL_isLobby 206 = .ok (.iconst 0, 1) := by decide +kernel
theorem dL_isLobby_207 : decode cL_isLobby 207 = .ok (.invokevirtual 88, 3) := by decide +kernel
theorem dL_isLobby_210 : decode cL_isLobby 210 = .ok (.aload_n 0, 1) := by decide +kernel
theorem dL_isLobby_211 : decode cL_isLobby 211 = .ok (.iload 10, 2) := by decide +kernel
theorem dL_isLobby_213 : decode cL_isLobby 213 = .ok (.iconst 1, 1) := by decide +kernel
theorem dL_isLobby_214 : decode cL_isLobby 214 = .ok (.invokevirtual 88, 3) := by decide +kernel
theorem dL_isLobby_217 : decode cL_isLobby 217 = .ok (.ior, 1) := by decide +kernel
theorem dL_isLobby_218 : decode cL_isLobby 218 = .ok (.aload_n 2, 1) := by decide +kernel
theorem dL_isLobby_219 : decode cL_isLobby 219 = .ok (.iload 10, 2) := by decide +kernel
theorem dL_isLobby_221 : decode cL_isLobby 221 = .ok (.iaload, 1) := by decide +kernel
theorem dL_isLobby_222 : decode cL_isLobby 222 = .ok (.ldc 91, 2) := by decide +kernel
theorem dL_isLobby_224 : decode cL_isLobby 224 = .ok (.iand, 1) := by decide +kernel
theorem dL_isLobby_225 : decode cL_isLobby 225 = .ok (.if_icmp .ne 25, 3) := by decide +kernel
theorem dL_isLobby_228 : decode cL_isLobby 228 = .ok (.aload_n 0, 1) := by decide +kernel
theorem dL_isLobby_229 : decode cL_isLobby 229 = .ok (.iload 10, 2) := by decide +kernel
theorem dL_isLobby_231 : decode cL_isLobby 231 = .ok (.iconst 0, 1) := by decide +kernel
theorem dL_isLobby_232 : decode cL_isLobby 232 = .ok (.invokevirtual 88, 3) := by decide +kernel
theorem dL_isLobby_235 : decode cL_isLobby 235 = .ok (.aload_n 0, 1) := by decide +kernel
theorem dL_isLobby_236 : decode cL_isLobby 236 = .ok (.iload 10, 2) := by decide +kernel
theorem dL_isLobby_238 : decode cL_isLobby 238 = .ok (.iconst 1, 1) := by decide +kernel
theorem dL_isLobby_239 : decode cL_isLobby 239 = .ok (.invokevirtual 88, 3) := by decide +kernel
theorem dL_isLobby_242 : decode cL_isLobby 242 = .ok (.iand, 1) := by decide +kernel
theorem dL_isLobby_243 : decode cL_isLobby 243 = .ok (.ifCond .ne 7, 3) := by decide +kernel
theorem dL_isLobby_246 : decode cL_isLobby 246 = .ok (.iconst 1, 1) := by decide +kernel
theorem dL_isLobby_247 : decode cL_isLobby 247 = .ok (.goto 4, 3) := by decide +kernel
theorem dL_isLobby_250 : decode cL_isLobby 250 = .ok (.iconst 0, 1) := by decide +kernel
theorem dL_isLobby_251 : decode cL_isLobby 251 = .ok (.istore 9, 2) := by decide +kernel
theorem dL_isLobby_253 : decode cL_isLobby 253 = .ok (.iload 8, 2) := by decide +kernel
theorem dL_isLobby_255 : decode cL_isLobby 255 = .ok (.iload 11, 2) := by decide +kernel
theorem dL_isLobby_257 : decode cL_isLobby 257 = .ok (.iconst 2, 1) := by decide +kernel
theorem dL_isLobby_258 : decode cL_isLobby 258 = .ok (.if_icmp .ge 13, 3) := by decide +kernel
theorem dL_isLobby_261 : decode cL_isLobby 261 = .ok (.aload_n 2, 1) := by decide +kernel
theorem dL_isLobby_262 : decode cL_isLobby 262 = .ok (.iload 10, 2) := by decide +kernel
theorem dL_isLobby_264 : decode cL_isLobby 264 = .ok (.iaload, 1) := by decide +kernel
theorem dL_isLobby_265 : decode cL_isLobby 265 = .ok (.ldc 91, 2) := by decide +kernel
theorem dL_isLobby_267 : decode cL_isLobby 267 = .ok (.iand, 1) := by decide +kernel
theorem dL_isLobby_268 : decode cL_isLobby 268 = .ok (.goto 4, 3) := by decide +kernel
theorem dL_isLobby_271 : decode cL_isLobby 271 = .ok (.iconst 0, 1) := by decide +kernel
theorem dL_isLobby_272 : decode cL_isLobby 272 = .ok (.ior, 1) := by decide +kernel
theorem dL_isLobby_273 : decode cL_isLobby 273 = .ok (.istore 8, 2) := by decide +kernel
theorem dL_isLobby_275 : decode cL_isLobby 275 = .ok (.iinc 10 1, 3) := by decide +kernel
theorem dL_isLobby_278 : decode cL_isLobby 278 = .ok (.goto (-111), 3) := by decide +kernel
theorem dL_isLobby_281 : decode cL_isLobby 281 = .ok (.iconst 0, 1) := by decide +kernel
theorem dL_isLobby_282 : decode cL_isLobby 282 = .ok (.istore 10, 2) := by decide +kernel
theorem dL_isLobby_284 : decode cL_isLobby 284 = .ok (.iload 10, 2) := by decide +kernel
theorem dL_isLobby_286 : decode cL_isLobby 286 = .ok (.aload 4, 2) := by decide +kernel
theorem dL_isLobby_288 : decode cL_isLobby 288 = .ok (.iconst 1, 1) := by decide +kernel
theorem dL_isLobby_289 : decode cL_isLobby 289 = .ok (.iaload, 1) := by decide +kernel
theorem dL_isLobby_290 : decode cL_isLobby 290 = .ok (.if_icmp .ge 155, 3) := by decide +kernel
theorem dL_isLobby_293 : decode cL_isLobby 293 = .ok (.iload 9, 2) := by decide +kernel
theorem dL_isLobby_295 : decode cL_isLobby 295 = .ok (.ifCond .eq 141, 3) := by decide +kernel
theorem dL_isLobby_298 : decode cL_isLobby 298 = .ok (.aload_n 0, 1) := by decide +kernel
theorem dL_isLobby_299 : decode cL_isLobby 299 = .ok (.iload 10, 2) := by decide +kernel
theorem dL_isLobby_301 : decode cL_isLobby 301 = .ok (.invokevirtual 92, 3) := by decide +kernel
theorem dL_isLobby_304 : decode cL_isLobby 304 = .ok (.iload 7, 2) := by decide +kernel
theorem dL_isLobby_306 : decode cL_isLobby 306 = .ok (.iload 10, 2) := by decide +kernel
theorem dL_isLobby_308 : decode cL_isLobby 308 = .ok (.invokestatic 48, 3) := by decide +kernel
theorem dL_isLobby_311 : decode cL_isLobby 311 = .ok (.ifCond .eq 7, 3) := by decide +kernel
theorem dL_isLobby_314 : decode cL_isLobby 314 = .ok (.iconst 1, 1) := by decide +kernel
theorem dL_isLobby_315 : decode cL_isLobby 315 = .ok (.goto 18, 3) := by decide +kernel
theorem dL_isLobby_318 : decode cL_isLobby 318 = .ok (.iload 8, 2) := by decide +kernel
theorem dL_isLobby_320 : decode cL_isLobby 320 = .ok (.iload 10, 2) := by decide +kernel
theorem dL_isLobby_322 : decode cL_isLobby 322 = .ok (.invokestatic 48, 3) := by decide +kernel
theorem dL_isLobby_325 : decode cL_isLobby 325 = .ok (.ifCond .eq 7, 3) := by decide +kernel
theorem dL_isLobby_328 : decode cL_isLobby 328 = .ok (.iconst 2, 1) := by decide +kernel
theorem dL_isLobby_329 : decode cL_isLobby 329 = .ok (.goto 4, 3) := by decide +kernel
theorem dL_isLobby_332 : decode cL_isLobby 332 = .ok (.iconst 0, 1) := by decide +kernel
theorem dL_isLobby_333 : decode cL_isLobby 333 = .ok (.if_icmp .ne 103, 3) := by decide +kernel
theorem dL_isLobby_336 : decode cL_isLobby 336 = .ok (.aload_n 0, 1) := by decide +kernel
theorem dL_isLobby_337 : decode cL_isLobby 337 = .ok (.iload 10, 2) := by decide +kernel
theorem dL_isLobby_339 : decode cL_isLobby 339 = .ok (.invokevirtual 51, 3) := by decide +kernel
theorem dL_isLobby_342 : decode cL_isLobby 342 = .ok (.ifCond .lt 94, 3) := by decide +kernel
theorem dL_isLobby_345 : decode cL_isLobby 345 = .ok (.aload_n 0, 1) := by decide +kernel
theorem dL_isLobby_346 : decode cL_isLobby 346 = .ok (.iload 10, 2) := by decide +kernel
theorem dL_isLobby_348 : decode cL_isLobby 348 = .ok (.invokevirtual 51, 3) := by decide +kernel
theorem dL_isLobby_351 : decode cL_isLobby 351 = .ok (.sipush 4000, 3) := by decide +kernel
theorem dL_isLobby_354 : decode cL_isLobby 354 = .ok (.if_icmp .gt 82, 3) := by decide +kernel
theorem dL_isLobby_357 : decode cL_isLobby 357 = .ok (.aload_n 0, 1) := by decide +kernel
theorem dL_isLobby_358 : decode cL_isLobby 358 = .ok (.iload 10, 2) := by decide +kernel
theorem dL_isLobby_360 : decode cL_isLobby 360 = .ok (.invokevirtual 95, 3) := by decide +kernel
theorem dL_isLobby_363 : decode cL_isLobby 363 = .ok (.bipush 50, 2) := by decide +kernel
theorem dL_isLobby_365 : decode cL_isLobby 365 = .ok (.if_icmp .lt 71, 3) := by decide +kernel
theorem dL_isLobby_368 : decode cL_isLobby 368 = .ok (.aload_n 0, 1) := by decide +kernel
theorem dL_isLobby_369 : decode cL_isLobby 369 = .ok (.iload 10, 2) := by decide +kernel
theorem dL_isLobby_371 : decode cL_isLobby 371 = .ok (.invokevirtual 95, 3) := by decide +kernel
theorem dL_isLobby_374 : decode cL_isLobby 374 = .ok (.sipush 350, 3) := by decide +kernel
theorem dL_isLobby_377 : decode cL_isLobby 377 = .ok (.if_icmp .gt 59, 3) := by decide +kernel
theorem dL_isLobby_380 : decode cL_isLobby 380 = .ok (.aload_n 0, 1) := by decide +kernel
theorem dL_isLobby_381 : decode cL_isLobby 381 = .ok (.iload 10, 2) := by decide +kernel
theorem dL_isLobby_383 : decode cL_isLobby 383 = .ok (.invokevirtual 98, 3) := by decide +kernel
theorem dL_isLobby_386 : decode cL_isLobby 386 = .ok (.ifCond .lt 50, 3) := by decide +kernel
theorem dL_isLobby_389 : decode cL_isLobby 389 = .ok (.aload_n 0, 1) := by decide +kernel
theorem dL_isLobby_390 : decode cL_isLobby 390 = .ok (.iload 10, 2) := by decide +kernel
theorem dL_isLobby_392 : decode cL_isLobby 392 = .ok (.invokevirtual 98, 3) := by decide +kernel
theorem dL_isLobby_395 : decode cL_isLobby 395 = .ok (.iconst 5, 1) := by decide +kernel
theorem dL_isLobby_396 : decode cL_isLobby 396 = .ok (.if_icmp .gt 40, 3) := by decide +kernel
theorem dL_isLobby_399 : decode cL_isLobby 399 = .ok (.aload_n 0, 1) := by decide +kernel
theorem dL_isLobby_400 : decode cL_isLobby 400 = .ok (.iload 10, 2) := by decide +kernel
theorem dL_isLobby_402 : decode cL_isLobby 402 = .ok (.invokevirtual 101, 3) := by decide +kernel
theorem dL_isLobby_405 : decode cL_isLobby 405 = .ok (.aload_n 3, 1) := by decide +kernel
theorem dL_isLobby_406 : decode cL_isLobby 406 = .ok (.iload 10, 2) := by decide +kernel
theorem dL_isLobby_408 : decode cL_isLobby 408 = .ok (.iaload, 1) := by decide +kernel
theorem dL_isLobby_409 : decode cL_isLobby 409 = .ok (.aload 4, 2) := by decide +kernel
theorem dL_isLobby_411 : decode cL_isLobby 411 = .ok (.iconst 0, 1) := by decide +kernel
theorem dL_isLobby_412 : decode cL_isLobby 412 = .ok (.iaload, 1) := by decide +kernel
theorem dL_isLobby_413 : decode cL_isLobby 413 = .ok (.if_icmp .le 15, 3) := by decide +kernel
theorem dL_isLobby_416 : decode cL_isLobby 416 = .ok (.aload_n 3, 1) := by decide +kernel
theorem dL_isLobby_417 : decode cL_isLobby 417 = .ok (.iload 10, 2) := by decide +kernel
theorem dL_isLobby_419 : decode cL_isLobby 419 = .ok (.iaload, 1) := by decide +kernel
theorem dL_isLobby_420 : decode cL_isLobby 420 = .ok (.aload 4, 2) := by decide +kernel
theorem dL_isLobby_422 : decode cL_isLobby 422 = .ok (.iconst 0, 1) := by decide +kernel
theorem dL_isLobby_423 : decode cL_isLobby 423 = .ok (.iaload, 1) := by decide +kernel
theorem dL_isLobby_424 : decode cL_isLobby 424 = .ok (.isub, 1) := by decide +kernel
theorem dL_isLobby_425 : decode cL_isLobby 425 = .ok (.goto 4, 3) := by decide +kernel
theorem dL_isLobby_428 : decode cL_isLobby 428 = .ok (.iconst 0, 1) := by decide +kernel
theorem dL_isLobby_429 : decode cL_isLobby 429 = .ok (.if_icmp .ne 7, 3) := by decide +kernel
theorem dL_isLobby_432 : decode cL_isLobby 432 = .ok (.iconst 1, 1) := by decide +kernel
theorem dL_isLobby_433 : decode cL_isLobby 433 = .ok (.goto 4, 3) := by decide +kernel
theorem dL_isLobby_436 : decode cL_isLobby 436 = .ok (.iconst 0, 1) := by decide +kernel
theorem dL_isLobby_437 : decode cL_isLobby 437 = .ok (.istore 9, 2) := by decide +kernel
theorem dL_isLobby_439 : decode cL_isLobby 439 = .ok (.iinc 10 1, 3) := by decide +kernel
theorem dL_isLobby_442 : decode cL_isLobby 442 = .ok (.goto (-158), 3) := by decide +kernel
theorem dL_isLobby_445 : decode cL_isLobby 445 = .ok (.aload 4, 2) := by decide +kernel
theorem dL_isLobby_447 : decode cL_isLobby 447 = .ok (.iconst 2, 1) := by decide +kernel
theorem dL_isLobby_448 : decode cL_isLobby 448 = .ok (.iaload, 1) := by decide +kernel
theorem dL_isLobby_449 : decode cL_isLobby 449 = .ok (.ifCond .ne 7, 3) := by decide +kernel
theorem dL_isLobby_452 : decode cL_isLobby 452 = .ok (.iconst (-1), 1) := by decide +kernel
theorem dL_isLobby_453 : decode cL_isLobby 453 = .ok (.goto 10, 3) := by decide +kernel
theorem dL_isLobby_456 : decode cL_isLobby 456 = .ok (.iload 5, 2) := by decide +kernel
theorem dL_isLobby_458 : decode cL_isLobby 458 = .ok (.aload 4, 2) := by decide +kernel
theorem dL_isLobby_460 : decode cL_isLobby 460 = .ok (.iconst 2, 1) := by decide +kernel
theorem dL_isLobby_461 : decode cL_isLobby 461 = .ok (.iaload, 1) := by decide +kernel
theorem dL_isLobby_462 : decode cL_isLobby 462 = .ok (.irem, 1) := by decide +kernel
theorem dL_isLobby_463 : decode cL_isLobby 463 = .ok (.istore 10, 2) := by decide +kernel
theorem dL_isLobby_465 : decode cL_isLobby 465 = .ok (.aload 4, 2) := by decide +kernel
theorem dL_isLobby_467 : decode cL_isLobby 467 = .ok (.iconst 2, 1) := by decide +kernel
theorem dL_isLobby_468 : decode cL_isLobby 468 = .ok (.iaload, 1) := by decide +kernel
theorem dL_isLobby_469 : decode cL_isLobby 469 = .ok (.ifCond .ne 7, 3) := by decide +kernel
theorem dL_isLobby_472 : decode cL_isLobby 472 = .ok (.iconst (-1), 1) := by decide +kernel
theorem dL_isLobby_473 : decode cL_isLobby 473 = .ok (.goto 13, 3) := by decide +kernel
theorem dL_isLobby_476 : decode cL_isLobby 476 = .ok (.iload 5, 2) := by decide +kernel
theorem dL_isLobby_478 : decode cL_isLobby 478 = .ok (.bipush 7, 2) := by decide +kernel
theorem dL_isLobby_480 : decode cL_isLobby 480 = .ok (.idiv, 1) := by decide +kernel
theorem dL_isLobby_481 : decode cL_isLobby 481 = .ok (.aload 4, 2) := by decide +kernel
theorem dL_isLobby_483 : decode cL_isLobby 483 = .ok (.iconst 2, 1) := by decide +kernel
theorem dL_isLobby_484 : decode cL_isLobby 484 = .ok (.iaload, 1) := by decide +kernel
theorem dL_isLobby_485 : decode cL_isLobby 485 = .ok (.irem, 1) := by decide +kernel
theorem dL_isLobby_486 : decode cL_isLobby 486 = .ok (.istore 11, 2) := by decide +kernel
theorem dL_isLobby_488 : decode cL_isLobby 488 = .ok (.iload 9, 2) := by decide +kernel
theorem dL_isLobby_490 : decode cL_isLobby 490 = .ok (.ifCond .eq 61, 3) := by decide +kernel
theorem dL_isLobby_493 : decode cL_isLobby 493 = .ok (.aload_n 0, 1) := by decide +kernel
theorem dL_isLobby_494 : decode cL_isLobby 494 = .ok (.invokevirtual 104, 3) := by decide +kernel
theorem dL_isLobby_497 : decode cL_isLobby 497 = .ok (.iload 6, 2) := by decide +kernel
theorem dL_isLobby_499 : decode cL_isLobby 499 = .ok (.if_icmp .ne 52, 3) := by decide +kernel
theorem dL_isLobby_502 : decode cL_isLobby 502 = .ok (.iload 10, 2) := by decide +kernel
theorem dL_isLobby_504 : decode cL_isLobby 504 = .ok (.ifCond .lt 43, 3) := by decide +kernel
theorem dL_isLobby_507 : decode cL_isLobby 507 = .ok (.aload_n 1, 1) := by decide +kernel
theorem dL_isLobby_508 : decode cL_isLobby 508 = .ok (.iload 10, 2) := by decide +kernel
theorem dL_isLobby_510 : decode cL_isLobby 510 = .ok (.invokestatic 77, 3) := by decide +kernel
theorem dL_isLobby_513 : decode cL_isLobby 513 = .ok (.ifCond .eq 34, 3) := by decide +kernel
theorem dL_isLobby_516 : decode cL_isLobby 516 = .ok (.aload_n 1, 1) := by decide +kernel
theorem dL_isLobby_517 : decode cL_isLobby 517 = .ok (.iload 11, 2) := by decide +kernel
theorem dL_isLobby_519 : decode cL_isLobby 519 = .ok (.invokestatic 77, 3) := by decide +kernel
theorem dL_isLobby_522 : decode cL_isLobby 522 = .ok (.ifCond .eq 25, 3) := by decide +kernel
theorem dL_isLobby_525 : decode cL_isLobby 525 = .ok (.aload_n 0, 1) := by decide +kernel
theorem dL_isLobby_526 : decode cL_isLobby 526 = .ok (.iload 10, 2) := by decide +kernel
theorem dL_isLobby_528 : decode cL_isLobby 528 = .ok (.iload 11, 2) := by decide +kernel
theorem dL_isLobby_530 : decode cL_isLobby 530 = .ok (.invokevirtual 107, 3) := by decide +kernel
theorem dL_isLobby_533 : decode cL_isLobby 533 = .ok (.aload_n 0, 1) := by decide +kernel
theorem dL_isLobby_534 : decode cL_isLobby 534 = .ok (.aload_n 1, 1) := by decide +kernel
theorem dL_isLobby_535 : decode cL_isLobby 535 = .ok (.aload 4, 2) := by decide +kernel
theorem dL_isLobby_537 : decode cL_isLobby 537 = .ok (.iload 10, 2) := by decide +kernel
theorem dL_isLobby_539 : decode cL_isLobby 539 = .ok (.iload 11, 2) := by decide +kernel
theorem dL_isLobby_541 : decode cL_isLobby 541 = .ok (.invokestatic 110, 3) := by decide +kernel
theorem dL_isLobby_544 : decode cL_isLobby 544 = .ok (.if_icmp .ne 7, 3) := by decide +kernel
theorem dL_isLobby_547 : decode cL_isLobby 547 = .ok (.iconst 1, 1) := by decide +kernel
theorem dL_isLobby_548 : decode cL_isLobby 548 = .ok (.goto 4, 3) := by decide +kernel
theorem dL_isLobby_551 : decode cL_isLobby 551 = .ok (.iconst 0, 1) := by decide +kernel
theorem dL_isLobby_552 : decode cL_isLobby 552 = .ok (.ireturn, 1) := by decide +kernel
set_option maxRecDepth 20000 in
theorem ggL_isTeam_L_has : GoodIn wsL_isTeam wsL_has := goodIn_r _ [5] (by decide +kernel) (by decide +kernel)
set_option maxRecDepth 20000 in
theorem gL_isTeam_L_has : GoodIn wsL_isTeam (va_wsS RL 48 yL_has wsL_has) := goodIn_app (goodIn_of _ (by decide +kernel)) ggL_isTeam_L_has
set_option maxRecDepth 20000 in
theorem ggL_isTeam_L_size : GoodIn wsL_isTeam wsL_size := goodIn_r _ [8] (by decide +kernel) (by decide +kernel)
set_option maxRecDepth 20000 in
theorem gL_isTeam_L_size : GoodIn wsL_isTeam (va_wsS RL 62 yL_size wsL_size) := goodIn_app (goodIn_of _ (by decide +kernel)) ggL_isTeam_L_size
theorem dL_isTeam_0 : decode cL_isTeam 0 = .ok (.iconst 3, 1) := by decide +kernel
theorem dL_isTeam_1 : decode cL_isTeam 1 = .ok (.newarray .int, 2) := by decide +kernel
theorem dL_isTeam_3 : decode cL_isTeam 3 = .ok (.astore_n 2, 1) := by decide +kernel
theorem dL_isTeam_4 : decode cL_isTeam 4 = .ok (.iconst 0, 1) := by decide +kernel
theorem dL_isTeam_5 : decode cL_isTeam 5 = .ok (.istore_n 3, 1) := by decide +kernel
theorem dL_isTeam_6 : decode cL_isTeam 6 = .ok (.iconst 0, 1) := by decide +kernel
theorem dL_isTeam_7 : decode cL_isTeam 7 = .ok (.istore 4, 2) := by decide +kernel
theorem dL_isTeam_9 : decode cL_isTeam 9 = .ok (.iload 4, 2) := by decide +kernel
theorem dL_isTeam_11 : decode cL_isTeam 11 = .ok (.bipush 18, 2) := by decide +kernel
theorem dL_isTeam_13 : decode cL_isTeam 13 = .ok (.if_icmp .ge 33, 3) := by decide +kernel
theorem dL_isTeam_16 : decode cL_isTeam 16 = .ok (.iload_n 1, 1) := by decide +kernel
theorem dL_isTeam_17 : decode cL_isTeam 17 = .ok (.iload 4, 2) := by decide +kernel
theorem dL_isTeam_19 : decode cL_isTeam 19 = .ok (.invokestatic 48, 3) := by decide +kernel
theorem dL_isTeam_22 : decode cL_isTeam 22 = .ok (.ifCond .eq 18, 3) := by decide +kernel
theorem dL_isTeam_25 : decode cL_isTeam 25 = .ok (.iload_n 3, 1) := by decide +kernel
theorem dL_isTeam_26 : decode cL_isTeam 26 = .ok (.iconst 3, 1) := by decide +kernel
theorem dL_isTeam_27 : decode cL_isTeam 27 = .ok (.if_icmp .ge 13, 3) := by decide +kernel
theorem dL_isTeam_30 : decode cL_isTeam 30 = .ok (.aload_n 2, 1) := by decide +kernel
theorem dL_isTeam_31 : decode cL_isTeam 31 = .ok (.iload_n 3, 1) := by decide +kernel
theorem dL_isTeam_32 : decode cL_isTeam 32 = .ok (.aload_n 0, 1) := by decide +kernel
theorem dL_isTeam_33 : decode cL_isTeam 33 = .ok (.iload 4, 2) := by decide +kernel
theorem dL_isTeam_35 : decode cL_isTeam 35 = .ok (.iaload, 1) := by decide +kernel
theorem dL_isTeam_36 : decode cL_isTeam 36 = .ok (.iastore, 1) := by decide +kernel
theorem dL_isTeam_37 : decode cL_isTeam 37 = .ok (.iinc 3 1, 3) := by decide +kernel
theorem dL_isTeam_40 : decode cL_isTeam 40 = .ok (.iinc 4 1, 3) := by decide +kernel
theorem dL_isTeam_43 : decode cL_isTeam 43 = .ok (.goto (-34), 3) := by decide +kernel
theorem dL_isTeam_46 : decode cL_isTeam 46 = .ok (.iconst 0, 1) := by decide +kernel
theorem dL_isTeam_47 : decode cL_isTeam 47 = .ok (.istore 4, 2) := by decide +kernel
theorem dL_isTeam_49 : decode cL_isTeam 49 = .ok (.iconst 0, 1) := by decide +kernel
theorem dL_isTeam_50 : decode cL_isTeam 50 = .ok (.istore 5, 2) := by decide +kernel
theorem dL_isTeam_52 : decode cL_isTeam 52 = .ok (.iload 5, 2) := by decide +kernel
theorem dL_isTeam_54 : decode cL_isTeam 54 = .ok (.bipush 27, 2) := by decide +kernel
theorem dL_isTeam_56 : decode cL_isTeam 56 = .ok (.if_icmp .ge 96, 3) := by decide +kernel
theorem dL_isTeam_59 : decode cL_isTeam 59 = .ok (.iload 5, 2) := by decide +kernel
theorem dL_isTeam_61 : decode cL_isTeam 61 = .ok (.iconst 3, 1) := by decide +kernel
theorem dL_isTeam_62 : decode cL_isTeam 62 = .ok (.irem, 1) := by decide +kernel
theorem dL_isTeam_63 : decode cL_isTeam 63 = .ok (.istore 6, 2) := by decide +kernel
theorem dL_isTeam_65 : decode cL_isTeam 65 = .ok (.iload 5, 2) := by decide +kernel
theorem dL_isTeam_67 : decode cL_isTeam 67 = .ok (.iconst 3, 1) := by decide +kernel
theorem dL_isTeam_68 : decode cL_isTeam 68 = .ok (.idiv, 1) := by decide +kernel
theorem dL_isTeam_69 : decode cL_isTeam 69 = .ok (.iconst 3, 1) := by decide +kernel
theorem dL_isTeam_70 : decode cL_isTeam 70 = .ok (.irem, 1) := by decide +kernel
theorem dL_isTeam_71 : decode cL_isTeam 71 = .ok (.istore 7, 2) := by decide +kernel
theorem dL_isTeam_73 : decode cL_isTeam 73 = .ok (.iload 5, 2) := by decide +kernel
theorem dL_isTeam_75 : decode cL_isTeam 75 = .ok (.bipush 9, 2) := by decide +kernel
theorem dL_isTeam_77 : decode cL_isTeam 77 = .ok (.idiv, 1) := by decide +kernel
theorem dL_isTeam_78 : decode cL_isTeam 78 = .ok (.istore 8, 2) := by decide +kernel
theorem dL_isTeam_80 : decode cL_isTeam 80 = .ok (.iload 4, 2) := by decide +kernel
theorem dL_isTeam_82 : decode cL_isTeam 82 = .ok (.ifCond .ne 57, 3) := by decide +kernel
theorem dL_isTeam_85 : decode cL_isTeam 85 = .ok (.iload 6, 2) := by decide +kernel
theorem dL_isTeam_87 : decode cL_isTeam 87 = .ok (.iload 7, 2) := by decide +kernel
theorem dL_isTeam_89 : decode cL_isTeam 89 = .ok (.if_icmp .eq 54, 3) := by decide +kernel
theorem dL_isTeam_92 : decode cL_isTeam 92 = .ok (.iload 7, 2) := by decide +kernel
theorem dL_isTeam_94 : decode cL_isTeam 94 = .ok (.iload 8, 2) := by decide +kernel
theorem dL_isTeam_96 : decode cL_isTeam 96 = .ok (.if_icmp .eq 47, 3) := by decide +kernel
theorem dL_isTeam_99 : decode cL_isTeam 99 = .ok (.iload 6, 2) := by decide +kernel
theorem dL_isTeam_101 : decode cL_isTeam 101 = .ok (.iload 8, 2) := by decide +kernel
theorem dL_isTeam_103 : decode cL_isTeam 103 = .ok (.if_icmp .eq 40, 3) := by decide +kernel
theorem dL_isTeam_106 : decode cL_isTeam 106 = .ok (.aload_n 2, 1) := by decide +kernel
theorem dL_isTeam_107 : decode cL_isTeam 107 = .ok (.iconst 0, 1) := by decide +kernel
theorem dL_isTeam_108 : decode cL_isTeam 108 = .ok (.iaload, 1) := by decide +kernel
theorem dL_isTeam_109 : decode cL_isTeam 109 = .ok (.iload 6, 2) := by decide +kernel
theorem dL_isTeam_111 : decode cL_isTeam 111 = .ok (.invokestatic 48, 3) := by decide +kernel
theorem dL_isTeam_114 : decode cL_isTeam 114 = .ok (.ifCond .eq 29, 3) := by decide +kernel
theorem dL_isTeam_117 : decode cL_isTeam 117 = .ok (.aload_n 2, 1) := by decide +kernel
theorem dL_isTeam_118 : decode cL_isTeam 118 = .ok (.iconst 1, 1) := by decide +kernel
theorem dL_isTeam_119 : decode cL_isTeam 119 = .ok (.iaload, 1) := by decide +kernel
theorem dL_isTeam_120 : decode cL_isTeam 120 = .ok (.iload 7, 2) := by decide +kernel
theorem dL_isTeam_122 : decode cL_isTeam 122 = .ok (.invokestatic 48, 3) := by decide +kernel
theorem dL_isTeam_125 : decode cL_isTeam 125 = .ok (.ifCond .eq 18, 3) := by decide +kernel
theorem dL_isTeam_128 : decode cL_isTeam 128 = .ok (.aload_n 2, 1) := by decide +kernel
theorem dL_isTeam_129 : decode cL_isTeam 129 = .ok (.iconst 2, 1) := by decide +kernel
theorem dL_isTeam_130 : decode cL_isTeam 130 = .ok (.iaload, 1) := by decide +kernel
theorem dL_isTeam_131 : decode cL_isTeam 131 = .ok (.iload 8, 2) := by decide +kernel
theorem dL_isTeam_133 : decode cL_isTeam 133 = .ok (.invokestatic 48, 3) := by decide +kernel
theorem dL_isTeam_136 : decode cL_isTeam 136 = .ok (.ifCond .eq 7, 3) := by decide +kernel
theorem dL_isTeam_139 : decode cL_isTeam 139 = .ok (.iconst 1, 1) := by decide +kernel
theorem dL_isTeam_140 : decode cL_isTeam 140 = .ok (.goto 4, 3) := by decide +kernel
theorem dL_isTeam_143 : decode cL_isTeam 143 = .ok (.iconst 0, 1) := by decide +kernel
theorem dL_isTeam_144 : decode cL_isTeam 144 = .ok (.istore 4, 2) := by decide +kernel
theorem dL_isTeam_146 : decode cL_isTeam 146 = .ok (.iinc 5 1, 3) := by decide +kernel
theorem dL_isTeam_149 : decode cL_isTeam 149 = .ok (.goto (-97), 3) := by decide +kernel
theorem dL_isTeam_152 : decode cL_isTeam 152 = .ok (.iload 4, 2) := by decide +kernel
theorem dL_isTeam_154 : decode cL_isTeam 154 = .ok (.ifCond .eq 15, 3) := by decide +kernel
theorem dL_isTeam_157 : decode cL_isTeam 157 = .ok (.iload_n 1, 1) := by decide +kernel
theorem dL_isTeam_158 : decode cL_isTeam 158 = .ok (.invokestatic 62, 3) := by decide +kernel
theorem dL_isTeam_161 : decode cL_isTeam 161 = .ok (.iconst 3, 1) := by decide +kernel
theorem dL_isTeam_162 : decode cL_isTeam 162 = .ok (.if_icmp .ne 7, 3) := by decide +kernel
theorem dL_isTeam_165 : decode cL_isTeam 165 = .ok (.iconst 1, 1) := by decide +kernel
theorem dL_isTeam_166 : decode cL_isTeam 166 = .ok (.goto 4, 3) := by decide +kernel
theorem dL_isTeam_169 : decode cL_isTeam 169 = .ok (.iconst 0, 1) := by decide +kernel
theorem dL_isTeam_170 : decode cL_isTeam 170 = .ok (.ireturn, 1) := by decide +kernel
set_option maxRecDepth 20000 in
theorem ggL_isMatch_X5_team : GoodIn wsL_isMatch wsX5_team := goodIn_ca (goodIn_ca (goodIn_r _ [5, 6, 7, 8, 9, 10, 4, 11, 12, 13, 14, 15, 16, 17, 18, 19, 20, 21, 22, 23, 24, 25, 26, 27, 28, 29, 30, 31, 32, 33, 34, 35, 36, 37, 38, 39, 40, 41, 42, 43, 88, 89, 90, 91, 92, 93, 94, 95, 96, 97, 98, 99, 100, 101, 102] (by decide +kernel) (by decide +kernel)) (goodIn_sub (fun _ h => List.mem_cons_of_mem _ (List.mem_append_left _ (List.mem_append_right _ h))) (by decide +kernel))) (goodIn_sub (fun _ h => List.mem_cons_of_mem _ (List.mem_append_right _ h)) (by decide +kernel))
set_option maxRecDepth 20000 in
theorem gL_isMatch_X5_team : GoodIn wsL_isMatch (wsV RL 88 RX5 yX5_team wsX5_team) := goodIn_app (goodIn_of _ (by decide +kernel)) ggL_isMatch_X5_team
set_option maxRecDepth 20000 in
theorem ggL_isMatch_L_isTeam : GoodIn wsL_isMatch wsL_isTeam := goodIn_r _ [47, 48, 49, 50, 46, 51, 52, 53, 54] (by decide +kernel) (by decide +kernel)
set_option maxRecDepth 20000 in
theorem gL_isMatch_L_isTeam : GoodIn wsL_isMatch (va_wsS RL 113 yL_isTeam wsL_isTeam) := goodIn_app (goodIn_of _ (by decide +kernel)) ggL_isMatch_L_isTeam
set_option maxRecDepth 20000 in
theorem ggL_isMatch_L_queues : GoodIn wsL_isMatch wsL_queues := goodIn_r _ [57] (by decide +kernel) (by decide +kernel)
set_option maxRecDepth 20000 in
theorem gL_isMatch_L_queues : GoodIn wsL_isMatch (va_wsS RL 77 yL_queues wsL_queues) := goodIn_app (goodIn_of _ (by decide +kernel)) ggL_isMatch_L_queues
set_option maxRecDepth 20000 in
theorem ggL_isMatch_L_players : GoodIn wsL_isMatch wsL_players := goodIn_r _ [60, 61] (by decide +kernel) (by decide +kernel)
set_option maxRecDepth 20000 in
theorem gL_isMatch_L_players : GoodIn wsL_isMatch (va_wsS RL 54 yL_players wsL_players) := goodIn_app (goodIn_of _ (by decide +kernel)) ggL_isMatch_L_players
set_option maxRecDepth 20000 in
theorem ggL_isMatch_L_sum : GoodIn wsL_isMatch wsL_sum := goodIn_ca (goodIn_r _ [64, 49, 50, 46, 51, 65, 66, 67, 4, 68, 69, 70, 71, 72, 73, 12, 13, 74, 75, 16, 17, 18, 19, 20, 21, 22, 23, 24, 25, 26, 27, 28, 29, 30, 31, 32, 33, 34, 35, 36, 37, 38, 103, 104, 105, 106, 107, 108, 95, 96, 97, 98, 99, 100, 101, 102] (by decide +kernel) (by decide +kernel)) (goodIn_sub (fun _ h => List.mem_cons_of_mem _ (List.mem_append_left _ (List.mem_append_right _ h))) (by decide +kernel))
set_option maxRecDepth 20000 in
theorem gL_isMatch_L_sum : GoodIn wsL_isMatch (va_wsS RL 58 yL_sum wsL_sum) := goodIn_app (goodIn_of _ (by decide +kernel)) ggL_isMatch_L_sum
set_option maxRecDepth 20000 in
theorem ggL_isMatch_X5_unevenness : GoodIn wsL_isMatch wsX5_unevenness := goodIn_ca (goodIn_r _ [79, 80, 8, 9, 10, 4, 11, 12, 13, 14, 15, 16, 17, 18, 19, 20, 21, 22, 23, 24, 25, 26, 27, 28, 29, 30, 31, 32, 33, 34, 35, 36, 37, 38, 88, 89, 90, 91, 92, 93, 94, 95, 96, 97, 98, 99, 100, 101, 102] (by decide +kernel) (by decide +kernel)) (goodIn_sub (fun _ h => List.mem_cons_of_mem _ (List.mem_append_left _ (List.mem_append_right _ h))) (by decide +kernel))
set_option maxRecDepth 20000 in
theorem gL_isMatch_X5_unevenness : GoodIn wsL_isMatch (wsV RL 117 RX5 yX5_unevenness wsX5_unevenness) := goodIn_app (goodIn_of _ (by decide +kernel)) ggL_isMatch_X5_unevenness
set_option maxRecDepth 20000 in
theorem ggL_isMatch_L_fit : GoodIn wsL_isMatch wsL_fit := goodIn_ca (goodIn_r _ [83, 58, 59, 46, 60, 61, 62, 63, 64, 49, 50, 51, 65, 66, 67, 4, 68, 69, 70, 71, 72, 73, 12, 13, 74, 75, 16, 17, 18, 19, 20, 21, 22, 23, 24, 25, 26, 27, 28, 29, 30, 31, 32, 33, 34, 35, 36, 37, 38, 52, 53, 54, 84, 85, 86, 87, 103, 104, 105, 106, 107, 108, 95, 96, 97, 98, 99, 100, 101, 102] (by decide +kernel) (by decide +kernel)) (goodIn_sub (fun _ h => List.mem_cons_of_mem _ (List.mem_append_left _ (List.mem_append_right _ h))) (by decide +kernel))
set_option maxRecDepth 20000 in
theorem gL_isMatch_L_fit : GoodIn wsL_isMatch (va_wsS RL 110 yL_fit wsL_fit) := goodIn_app (goodIn_of _ (by decide +kernel)) ggL_isMatch_L_fit
set_option maxRecDepth 20000 in
theorem ggL_isMatch_L_has : GoodIn wsL_isMatch wsL_has := goodIn_r _ [51] (by decide +kernel) (by decide +kernel)
set_option maxRecDepth 20000 in
theorem gL_isMatch_L_has : GoodIn wsL_isMatch (va_wsS RL 48 yL_has wsL_has) := goodIn_app (goodIn_of _ (by decide +kernel)) ggL_isMatch_L_has
theorem dL_isMatch_0 : decode cL_isMatch 0 = .ok (.aload_n 0, 1) := by decide +kernel
theorem dL_isMatch_1 : decode cL_isMatch 1 = .ok (.iload 4, 2) := by decide +kernel
theorem dL_isMatch_3 : decode cL_isMatch 3 = .ok (.iconst 0, 1) := by decide +kernel
theorem dL_isMatch_4 : decode cL_isMatch 4 = .ok (.invokevirtual 88, 3) := by decide +kernel
theorem dL_isMatch_7 : decode cL_isMatch 7 = .ok (.istore 5, 2) := by decide +kernel
theorem dL_isMatch_9 : decode cL_isMatch 9 = .ok (.aload_n 0, 1) := by decide +kernel
theorem dL_isMatch_10 : decode cL_isMatch 10 = .ok (.iload 4, 2) := by decide +kernel
theorem dL_isMatch_12 : decode cL_isMatch 12 = .ok (.iconst 1, 1) := by decide +kernel
theorem dL_isMatch_13 : decode cL_isMatch 13 = .ok (.invokevirtual 88, 3) := by decide +kernel
theorem dL_isMatch_16 : decode cL_isMatch 16 = .ok (.istore 6, 2) := by decide +kernel
theorem dL_isMatch_18 : decode cL_isMatch 18 = .ok (.iconst (-1), 1) := by decide +kernel
theorem dL_isMatch_19 : decode cL_isMatch 19 = .ok (.istore 7, 2) := by decide +kernel
theorem dL_isMatch_21 : decode cL_isMatch 21 = .ok (.iconst 0, 1) := by decide +kernel
theorem dL_isMatch_22 : decode cL_isMatch 22 = .ok (.istore 8, 2) := by decide +kernel
theorem dL_isMatch_24 : decode cL_isMatch 24 = .ok (.iconst 0, 1) := by decide +kernel
theorem dL_isMatch_25 : decode cL_isMatch 25 = .ok (.istore 9, 2) := by decide +kernel
theorem dL_isMatch_27 : decode cL_isMatch 27 = .ok (.aload_n 2, 1) := by decide +kernel
theorem dL_isMatch_28 : decode cL_isMatch 28 = .ok (.iload 5, 2) := by decide +kernel
theorem dL_isMatch_30 : decode cL_isMatch 30 = .ok (.invokestatic 113, 3) := by decide +kernel
theorem dL_isMatch_33 : decode cL_isMatch 33 = .ok (.ifCond .eq 16, 3) := by decide +kernel
theorem dL_isMatch_36 : decode cL_isMatch 36 = .ok (.aload_n 2, 1) := by decide +kernel
theorem dL_isMatch_37 : decode cL_isMatch 37 = .ok (.iload 6, 2) := by decide +kernel
theorem dL_isMatch_39 : decode cL_isMatch 39 = .ok (.invokestatic 113, 3) := by decide +kernel
theorem dL_isMatch_42 : decode cL_isMatch 42 = .ok (.ifCond .eq 7, 3) := by decide +kernel
theorem dL_isMatch_45 : decode cL_isMatch 45 = .ok (.iconst 1, 1) := by decide +kernel
theorem dL_isMatch_46 : decode cL_isMatch 46 = .ok (.goto 4, 3) := by decide +kernel
theorem dL_isMatch_49 : decode cL_isMatch 49 = .ok (.iconst 0, 1) := by decide +kernel
theorem dL_isMatch_50 : decode cL_isMatch 50 = .ok (.istore 10, 2) := by decide +kernel
theorem dL_isMatch_52 : decode cL_isMatch 52 = .ok (.aload_n 3, 1) := by decide +kernel
theorem dL_isMatch_53 : decode cL_isMatch 53 = .ok (.iconst 2, 1) := by decide +kernel
theorem dL_isMatch_54 : decode cL_isMatch 54 = .ok (.iaload, 1) := by decide +kernel
theorem dL_isMatch_55 : decode cL_isMatch 55 = .ok (.iconst 1, 1) := by decide +kernel
theorem dL_isMatch_56 : decode cL_isMatch 56 = .ok (.isub, 1) := by decide +kernel
theorem dL_isMatch_57 : decode cL_isMatch 57 = .ok (.istore 11, 2) := by decide +kernel
theorem dL_isMatch_59 : decode cL_isMatch 59 = .ok (.iload 11, 2) := by decide +kernel
theorem dL_isMatch_61 : decode cL_isMatch 61 = .ok (.ifCond .lt 134, 3) := by decide +kernel
theorem dL_isMatch_64 : decode cL_isMatch 64 = .ok (.aload_n 1, 1) := by decide +kernel
theorem dL_isMatch_65 : decode cL_isMatch 65 = .ok (.iload 11, 2) := by decide +kernel
theorem dL_isMatch_67 : decode cL_isMatch 67 = .ok (.invokestatic 77, 3) := by decide +kernel
theorem dL_isMatch_70 : decode cL_isMatch 70 = .ok (.ifCond .eq 22, 3) := by decide +kernel
theorem dL_isMatch_73 : decode cL_isMatch 73 = .ok (.aload_n 1, 1) := by decide +kernel
theorem dL_isMatch_74 : decode cL_isMatch 74 = .ok (.iload 11, 2) := by decide +kernel
theorem dL_isMatch_76 : decode cL_isMatch 76 = .ok (.invokestatic 54, 3) := by decide +kernel
theorem dL_isMatch_79 : decode cL_isMatch 79 = .ok (.iload 5, 2) := by decide +kernel
theorem dL_isMatch_81 : decode cL_isMatch 81 = .ok (.iload 6, 2) := by decide +kernel
theorem dL_isMatch_83 : decode cL_isMatch 83 = .ok (.ior, 1) := by decide +kernel
theorem dL_isMatch_84 : decode cL_isMatch 84 = .ok (.iand, 1) := by decide +kernel
theorem dL_isMatch_85 : decode cL_isMatch 85 = .ok (.ifCond .eq 7, 3) := by decide +kernel
theorem dL_isMatch_88 : decode cL_isMatch 88 = .ok (.iconst 1, 1) := by decide +kernel
theorem dL_isMatch_89 : decode cL_isMatch 89 = .ok (.goto 4, 3) := by decide +kernel
theorem dL_isMatch_92 : decode cL_isMatch 92 = .ok (.iconst 0, 1) := by decide +kernel
theorem dL_isMatch_93 : decode cL_isMatch 93 = .ok (.istore 12, 2) := by decide +kernel
theorem dL_isMatch_95 : decode cL_isMatch 95 = .ok (.iload 10, 2) := by decide +kernel
theorem dL_isMatch_97 : decode cL_isMatch 97 = .ok (.ifCond .eq 40, 3) := by decide +kernel
theorem dL_isMatch_100 : decode cL_isMatch 100 = .ok (.iload 12, 2) := by decide +kernel
theorem dL_isMatch_102 : decode cL_isMatch 102 = .ok (.ifCond .eq 31, 3) := by decide +kernel
theorem dL_isMatch_105 : decode cL_isMatch 105 = .ok (.aload_n 1, 1) := by decide +kernel
theorem dL_isMatch_106 : decode cL_isMatch 106 = .ok (.iload 11, 2) := by decide +kernel
theorem dL_isMatch_108 : decode cL_isMatch 108 = .ok (.invokestatic 54, 3) := by decide +kernel
theorem dL_isMatch_111 : decode cL_isMatch 111 = .ok (.iload 5, 2) := by decide +kernel
theorem dL_isMatch_113 : decode cL_isMatch 113 = .ok (.iconst (-1), 1) := by decide +kernel
theorem dL_isMatch_114 : decode cL_isMatch 114 = .ok (.ixor, 1) := by decide +kernel
theorem dL_isMatch_115 : decode cL_isMatch 115 = .ok (.iand, 1) := by decide +kernel
theorem dL_isMatch_116 : decode cL_isMatch 116 = .ok (.ifCond .eq 17, 3) := by decide +kernel
theorem dL_isMatch_119 : decode cL_isMatch 119 = .ok (.aload_n 1, 1) := by decide +kernel
theorem dL_isMatch_120 : decode cL_isMatch 120 = .ok (.iload 11, 2) := by decide +kernel
theorem dL_isMatch_122 : decode cL_isMatch 122 = .ok (.invokestatic 54, 3) := by decide +kernel
theorem dL_isMatch_125 : decode cL_isMatch 125 = .ok (.iload 6, 2) := by decide +kernel
theorem dL_isMatch_127 : decode cL_isMatch 127 = .ok (.iconst (-1), 1) := by decide +kernel
theorem dL_isMatch_128 : decode cL_isMatch 128 = .ok (.ixor, 1) := by decide +kernel
theorem dL_isMatch_129 : decode cL_isMatch 129 = .ok (.iand, 1) := by decide +kernel
theorem dL_isMatch_130 : decode cL_isMatch 130 = .ok (.ifCond .ne 7, 3) := by decide +kernel
theorem dL_isMatch_133 : decode cL_isMatch 133 = .ok (.iconst 1, 1) := by decide +kernel
theorem dL_isMatch_134 : decode cL_isMatch 134 = .ok (.goto 4, 3) := by decide +kernel
theorem dL_isMatch_137 : decode cL_isMatch 137 = .ok (.iconst 0, 1) := by decide +kernel
theorem dL_isMatch_138 : decode cL_isMatch 138 = .ok (.istore 10, 2) := by decide +kernel
theorem dL_isMatch_140 : decode cL_isMatch 140 = .ok (.iload 12, 2) := by decide +kernel
theorem dL_isMatch_142 : decode cL_isMatch 142 = .ok (.ifCond .eq 8, 3) := by decide +kernel
theorem dL_isMatch_145 : decode cL_isMatch 145 = .ok (.iload 11, 2) := by decide +kernel
theorem dL_isMatch_147 : decode cL_isMatch 147 = .ok (.goto 5, 3) := by decide +kernel
theorem dL_isMatch_150 : decode cL_isMatch 150 = .ok (.iload 7, 2) := by decide +kernel
theorem dL_isMatch_152 : decode cL_isMatch 152 = .ok (.istore 7, 2) := by decide +kernel
theorem dL_isMatch_154 : decode cL_isMatch 154 = .ok (.iload 8, 2) := by decide +kernel
theorem dL_isMatch_156 : decode cL_isMatch 156 = .ok (.iload 12, 2) := by decide +kernel
theorem dL_isMatch_158 : decode cL_isMatch 158 = .ok (.ifCond .eq 12, 3) := by decide +kernel
theorem dL_isMatch_161 : decode cL_isMatch 161 = .ok (.aload_n 1, 1) := by decide +kernel
theorem dL_isMatch_162 : decode cL_isMatch 162 = .ok (.iload 11, 2) := by decide +kernel
theorem dL_isMatch_164 : decode cL_isMatch 164 = .ok (.invokestatic 54, 3) := by decide +kernel
theorem dL_isMatch_167 : decode cL_isMatch 167 = .ok (.goto 4, 3) := by decide +kernel
theorem dL_isMatch_170 : decode cL_isMatch 170 = .ok (.iconst 0, 1) := by decide +kernel
theorem dL_isMatch_171 : decode cL_isMatch 171 = .ok (.ior, 1) := by decide +kernel
theorem dL_isMatch_172 : decode cL_isMatch 172 = .ok (.istore 8, 2) := by decide +kernel
theorem dL_isMatch_174 : decode cL_isMatch 174 = .ok (.iload 9, 2) := by decide +kernel
theorem dL_isMatch_176 : decode cL_isMatch 176 = .ok (.iload 12, 2) := by decide +kernel
theorem dL_isMatch_178 : decode cL_isMatch 178 = .ok (.ifCond .eq 7, 3) := by decide +kernel
theorem dL_isMatch_181 : decode cL_isMatch 181 = .ok (.iconst 1, 1) := by decide +kernel
theorem dL_isMatch_182 : decode cL_isMatch 182 = .ok (.goto 4, 3) := by decide +kernel
theorem dL_isMatch_185 : decode cL_isMatch 185 = .ok (.iconst 0, 1) := by decide +kernel
theorem dL_isMatch_186 : decode cL_isMatch 186 = .ok (.iadd, 1) := by decide +kernel
theorem dL_isMatch_187 : decode cL_isMatch 187 = .ok (.istore 9, 2) := by decide +kernel
theorem dL_isMatch_189 : decode cL_isMatch 189 = .ok (.iinc 11 (-1), 3) := by decide +kernel
theorem dL_isMatch_192 : decode cL_isMatch 192 = .ok (.goto (-133), 3) := by decide +kernel
theorem dL_isMatch_195 : decode cL_isMatch 195 = .ok (.aload_n 0, 1) := by decide +kernel
theorem dL_isMatch_196 : decode cL_isMatch 196 = .ok (.iload 5, 2) := by decide +kernel
theorem dL_isMatch_198 : decode cL_isMatch 198 = .ok (.invokestatic 58, 3) := by decide +kernel
theorem dL_isMatch_201 : decode cL_isMatch 201 = .ok (.aload_n 0, 1) := by decide +kernel
theorem dL_isMatch_202 : decode cL_isMatch 202 = .ok (.iload 6, 2) := by decide +kernel
theorem dL_isMatch_204 : decode cL_isMatch 204 = .ok (.invokestatic 58, 3) := by decide +kernel
theorem dL_isMatch_207 : decode cL_isMatch 207 = .ok (.isub, 1) := by decide +kernel
theorem dL_isMatch_208 : decode cL_isMatch 208 = .ok (.istore 11, 2) := by decide +kernel
theorem dL_isMatch_210 : decode cL_isMatch 210 = .ok (.iload 11, 2) := by decide +kernel
theorem dL_isMatch_212 : decode cL_isMatch 212 = .ok (.ifCond .ge 9, 3) := by decide +kernel
theorem dL_isMatch_215 : decode cL_isMatch 215 = .ok (.iload 11, 2) := by decide +kernel
theorem dL_isMatch_217 : decode cL_isMatch 217 = .ok (.ineg, 1) := by decide +kernel
theorem dL_isMatch_218 : decode cL_isMatch 218 = .ok (.goto 5, 3) := by decide +kernel
theorem dL_isMatch_221 : decode cL_isMatch 221 = .ok (.iload 11, 2) := by decide +kernel
theorem dL_isMatch_223 : decode cL_isMatch 223 = .ok (.istore 11, 2) := by decide +kernel
theorem dL_isMatch_225 : decode cL_isMatch 225 = .ok (.iload 10, 2) := by decide +kernel
theorem dL_isMatch_227 : decode cL_isMatch 227 = .ok (.ifCond .eq 47, 3) := by decide +kernel
theorem dL_isMatch_230 : decode cL_isMatch 230 = .ok (.iload 8, 2) := by decide +kernel
theorem dL_isMatch_232 : decode cL_isMatch 232 = .ok (.iload 5, 2) := by decide +kernel
theorem dL_isMatch_234 : decode cL_isMatch 234 = .ok (.iload 6, 2) := by decide +kernel
theorem dL_isMatch_236 : decode cL_isMatch 236 = .ok (.ior, 1) := by decide +kernel
theorem dL_isMatch_237 : decode cL_isMatch 237 = .ok (.if_icmp .ne 37, 3) := by decide +kernel
theorem dL_isMatch_240 : decode cL_isMatch 240 = .ok (.iload 7, 2) := by decide +kernel
theorem dL_isMatch_242 : decode cL_isMatch 242 = .ok (.ifCond .lt 32, 3) := by decide +kernel
theorem dL_isMatch_245 : decode cL_isMatch 245 = .ok (.aload_n 1, 1) := by decide +kernel
theorem dL_isMatch_246 : decode cL_isMatch 246 = .ok (.iload 7, 2) := by decide +kernel
theorem dL_isMatch_248 : decode cL_isMatch 248 = .ok (.invokestatic 54, 3) := by decide +kernel
theorem dL_isMatch_251 : decode cL_isMatch 251 = .ok (.iload 5, 2) := by decide +kernel
theorem dL_isMatch_253 : decode cL_isMatch 253 = .ok (.iconst (-1), 1) := by decide +kernel
theorem dL_isMatch_254 : decode cL_isMatch 254 = .ok (.ixor, 1) := by decide +kernel
theorem dL_isMatch_255 : decode cL_isMatch 255 = .ok (.iand, 1) := by decide +kernel
theorem dL_isMatch_256 : decode cL_isMatch 256 = .ok (.ifCond .ne 18, 3) := by decide +kernel
theorem dL_isMatch_259 : decode cL_isMatch 259 = .ok (.aload_n 0, 1) := by decide +kernel
theorem dL_isMatch_260 : decode cL_isMatch 260 = .ok (.iload 4, 2) := by decide +kernel
theorem dL_isMatch_262 : decode cL_isMatch 262 = .ok (.invokevirtual 117, 3) := by decide +kernel
theorem dL_isMatch_265 : decode cL_isMatch 265 = .ok (.iload 11, 2) := by decide +kernel
theorem dL_isMatch_267 : decode cL_isMatch 267 = .ok (.if_icmp .ne 7, 3) := by decide +kernel
theorem dL_isMatch_270 : decode cL_isMatch 270 = .ok (.iconst 1, 1) := by decide +kernel
theorem dL_isMatch_271 : decode cL_isMatch 271 = .ok (.goto 4, 3) := by decide +kernel
theorem dL_isMatch_274 : decode cL_isMatch 274 = .ok (.iconst 0, 1) := by decide +kernel
theorem dL_isMatch_275 : decode cL_isMatch 275 = .ok (.istore 10, 2) := by decide +kernel
theorem dL_isMatch_277 : decode cL_isMatch 277 = .ok (.iload 7, 2) := by decide +kernel
theorem dL_isMatch_279 : decode cL_isMatch 279 = .ok (.istore 12, 2) := by decide +kernel
theorem dL_isMatch_281 : decode cL_isMatch 281 = .ok (.iload 12, 2) := by decide +kernel
theorem dL_isMatch_283 : decode cL_isMatch 283 = .ok (.aload_n 3, 1) := by decide +kernel
theorem dL_isMatch_284 : decode cL_isMatch 284 = .ok (.iconst 2, 1) := by decide +kernel
theorem dL_isMatch_285 : decode cL_isMatch 285 = .ok (.iaload, 1) := by decide +kernel
theorem dL_isMatch_286 : decode cL_isMatch 286 = .ok (.if_icmp .ge 55, 3) := by decide +kernel
theorem dL_isMatch_289 : decode cL_isMatch 289 = .ok (.iload 10, 2) := by decide +kernel
theorem dL_isMatch_291 : decode cL_isMatch 291 = .ok (.ifCond .eq 50, 3) := by decide +kernel
theorem dL_isMatch_294 : decode cL_isMatch 294 = .ok (.aload_n 1, 1) := by decide +kernel
theorem dL_isMatch_295 : decode cL_isMatch 295 = .ok (.iload 12, 2) := by decide +kernel
theorem dL_isMatch_297 : decode cL_isMatch 297 = .ok (.invokestatic 77, 3) := by decide +kernel
theorem dL_isMatch_300 : decode cL_isMatch 300 = .ok (.ifCond .eq 28, 3) := by decide +kernel
theorem dL_isMatch_303 : decode cL_isMatch 303 = .ok (.aload_n 1, 1) := by decide +kernel
theorem dL_isMatch_304 : decode cL_isMatch 304 = .ok (.iload 12, 2) := by decide +kernel
theorem dL_isMatch_306 : decode cL_isMatch 306 = .ok (.invokestatic 54, 3) := by decide +kernel
theorem dL_isMatch_309 : decode cL_isMatch 309 = .ok (.iload 8, 2) := by decide +kernel
theorem dL_isMatch_311 : decode cL_isMatch 311 = .ok (.iand, 1) := by decide +kernel
theorem dL_isMatch_312 : decode cL_isMatch 312 = .ok (.ifCond .eq 16, 3) := by decide +kernel
theorem dL_isMatch_315 : decode cL_isMatch 315 = .ok (.aload_n 0, 1) := by decide +kernel
theorem dL_isMatch_316 : decode cL_isMatch 316 = .ok (.aload_n 1, 1) := by decide +kernel
theorem dL_isMatch_317 : decode cL_isMatch 317 = .ok (.aload_n 3, 1) := by decide +kernel
theorem dL_isMatch_318 : decode cL_isMatch 318 = .ok (.iload 7, 2) := by decide +kernel
theorem dL_isMatch_320 : decode cL_isMatch 320 = .ok (.iload 12, 2) := by decide +kernel
theorem dL_isMatch_322 : decode cL_isMatch 322 = .ok (.invokestatic 110, 3) := by decide +kernel
theorem dL_isMatch_325 : decode cL_isMatch 325 = .ok (.ifCond .eq 7, 3) := by decide +kernel
theorem dL_isMatch_328 : decode cL_isMatch 328 = .ok (.iconst 1, 1) := by decide +kernel
theorem dL_isMatch_329 : decode cL_isMatch 329 = .ok (.goto 4, 3) := by decide +kernel
theorem dL_isMatch_332 : decode cL_isMatch 332 = .ok (.iconst 0, 1) := by decide +kernel
theorem dL_isMatch_333 : decode cL_isMatch 333 = .ok (.istore 10, 2) := by decide +kernel
theorem dL_isMatch_335 : decode cL_isMatch 335 = .ok (.iinc 12 1, 3) := by decide +kernel
theorem dL_isMatch_338 : decode cL_isMatch 338 = .ok (.goto (-57), 3) := by decide +kernel
theorem dL_isMatch_341 : decode cL_isMatch 341 = .ok (.iconst 0, 1) := by decide +kernel
theorem dL_isMatch_342 : decode cL_isMatch 342 = .ok (.istore 12, 2) := by decide +kernel
theorem dL_isMatch_344 : decode cL_isMatch 344 = .ok (.iload 12, 2) := by decide +kernel
theorem dL_isMatch_346 : decode cL_isMatch 346 = .ok (.iconst 1, 1) := by decide +kernel
theorem dL_isMatch_347 : decode cL_isMatch 347 = .ok (.iload 9, 2) := by decide +kernel
theorem dL_isMatch_349 : decode cL_isMatch 349 = .ok (.ishl, 1) := by decide +kernel
theorem dL_isMatch_350 : decode cL_isMatch 350 = .ok (.if_icmp .ge 234, 3) := by decide +kernel
theorem dL_isMatch_353 : decode cL_isMatch 353 = .ok (.iload 10, 2) := by decide +kernel
theorem dL_isMatch_355 : decode cL_isMatch 355 = .ok (.ifCond .eq 229, 3) := by decide +kernel
theorem dL_isMatch_358 : decode cL_isMatch 358 = .ok (.iconst 0, 1) := by decide +kernel
theorem dL_isMatch_359 : decode cL_isMatch 359 = .ok (.istore 13, 2) := by decide +kernel
theorem dL_isMatch_361 : decode cL_isMatch 361 = .ok (.iconst 0, 1) := by decide +kernel
theorem dL_isMatch_362 : decode cL_isMatch 362 = .ok (.istore 14, 2) := by decide +kernel
theorem dL_isMatch_364 : decode cL_isMatch 364 = .ok (.iconst 0, 1) := by decide +kernel
theorem dL_isMatch_365 : decode cL_isMatch 365 = .ok (.istore 15, 2) := by decide +kernel
theorem dL_isMatch_367 : decode cL_isMatch 367 = .ok (.iconst 0, 1) := by decide +kernel
theorem dL_isMatch_368 : decode cL_isMatch 368 = .ok (.istore 16, 2) := by decide +kernel
theorem dL_isMatch_370 : decode cL_isMatch 370 = .ok (.iload 16, 2) := by decide +kernel
theorem dL_isMatch_372 : decode cL_isMatch 372 = .ok (.aload_n 3, 1) := by decide +kernel
theorem dL_isMatch_373 : decode cL_isMatch 373 = .ok (.iconst 2, 1) := by decide +kernel
theorem dL_isMatch_374 : decode cL_isMatch 374 = .ok (.iaload, 1) := by decide +kernel
theorem dL_isMatch_375 : decode cL_isMatch 375 = .ok (.if_icmp .ge 110, 3) := by decide +kernel
theorem dL_isMatch_378 : decode cL_isMatch 378 = .ok (.aload_n 1, 1) := by decide +kernel
theorem dL_isMatch_379 : decode cL_isMatch 379 = .ok (.iload 16, 2) := by decide +kernel
theorem dL_isMatch_381 : decode cL_isMatch 381 = .ok (.invokestatic 77, 3) := by decide +kernel
theorem dL_isMatch_384 : decode cL_isMatch 384 = .ok (.ifCond .eq 95, 3) := by decide +kernel
theorem dL_isMatch_387 : decode cL_isMatch 387 = .ok (.aload_n 1, 1) := by decide +kernel
theorem dL_isMatch_388 : decode cL_isMatch 388 = .ok (.iload 16, 2) := by decide +kernel
theorem dL_isMatch_390 : decode cL_isMatch 390 = .ok (.invokestatic 54, 3) := by decide +kernel
theorem dL_isMatch_393 : decode cL_isMatch 393 = .ok (.iload 8, 2) := by decide +kernel
theorem dL_isMatch_395 : decode cL_isMatch 395 = .ok (.iand, 1) := by decide +kernel
theorem dL_isMatch_396 : decode cL_isMatch 396 = .ok (.ifCond .eq 83, 3) := by decide +kernel
theorem dL_isMatch_399 : decode cL_isMatch 399 = .ok (.iload 12, 2) := by decide +kernel
theorem dL_isMatch_401 : decode cL_isMatch 401 = .ok (.iload 14, 2) := by decide +kernel
theorem dL_isMatch_403 : decode cL_isMatch 403 = .ok (.invokestatic 48, 3) := by decide +kernel
theorem dL_isMatch_406 : decode cL_isMatch 406 = .ok (.istore 17, 2) := by decide +kernel
theorem dL_isMatch_408 : decode cL_isMatch 408 = .ok (.aload_n 1, 1) := by decide +kernel
theorem dL_isMatch_409 : decode cL_isMatch 409 = .ok (.iload 16, 2) := by decide +kernel
theorem dL_isMatch_411 : decode cL_isMatch 411 = .ok (.invokestatic 54, 3) := by decide +kernel
theorem dL_isMatch_414 : decode cL_isMatch 414 = .ok (.iload 5, 2) := by decide +kernel
theorem dL_isMatch_416 : decode cL_isMatch 416 = .ok (.iand, 1) := by decide +kernel
theorem dL_isMatch_417 : decode cL_isMatch 417 = .ok (.ifCond .eq 7, 3) := by decide +kernel
theorem dL_isMatch_420 : decode cL_isMatch 420 = .ok (.iconst 1, 1) := by decide +kernel
theorem dL_isMatch_421 : decode cL_isMatch 421 = .ok (.goto 4, 3) := by decide +kernel
theorem dL_isMatch_424 : decode cL_isMatch 424 = .ok (.iconst 0, 1) := by decide +kernel
theorem dL_isMatch_425 : decode cL_isMatch 425 = .ok (.istore 18, 2) := by decide +kernel
theorem dL_isMatch_427 : decode cL_isMatch 427 = .ok (.iload 13, 2) := by decide +kernel
theorem dL_isMatch_429 : decode cL_isMatch 429 = .ok (.iload 17, 2) := by decide +kernel
theorem dL_isMatch_431 : decode cL_isMatch 431 = .ok (.ifCond .eq 12, 3) := by decide +kernel
theorem dL_isMatch_434 : decode cL_isMatch 434 = .ok (.aload_n 1, 1) := by decide +kernel
theorem dL_isMatch_435 : decode cL_isMatch 435 = .ok (.iload 16, 2) := by decide +kernel
theorem dL_isMatch_437 : decode cL_isMatch 437 = .ok (.invokestatic 54, 3) := by decide +kernel
theorem dL_isMatch_440 : decode cL_isMatch 440 = .ok (.goto 4, 3) := by decide +kernel
theorem dL_isMatch_443 : decode cL_isMatch 443 = .ok (.iconst 0, 1) := by decide +kernel
theorem dL_isMatch_444 : decode cL_isMatch 444 = .ok (.ior, 1) := by decide +kernel
theorem dL_isMatch_445 : decode cL_isMatch 445 = .ok (.istore 13, 2) := by decide +kernel
theorem dL_isMatch_447 : decode cL_isMatch 447 = .ok (.iload 15, 2) := by decide +kernel
theorem dL_isMatch_449 : decode cL_isMatch 449 = .ok (.ifCond .ne 10, 3) := by decide +kernel
theorem dL_isMatch_452 : decode cL_isMatch 452 = .ok (.iload 17, 2) := by decide +kernel
theorem dL_isMatch_454 : decode cL_isMatch 454 = .ok (.iload 18, 2) := by decide +kernel
theorem dL_isMatch_456 : decode cL_isMatch 456 = .ok (.if_icmp .ne 8, 3) := by decide +kernel
theorem dL_isMatch_459 : decode cL_isMatch 459 = .ok (.iload 15, 2) := by decide +kernel
theorem dL_isMatch_461 : decode cL_isMatch 461 = .ok (.goto 13, 3) := by decide +kernel
theorem dL_isMatch_464 : decode cL_isMatch 464 = .ok (.iload 17, 2) := by decide +kernel
theorem dL_isMatch_466 : decode cL_isMatch 466 = .ok (.ifCond .eq 7, 3) := by decide +kernel
theorem dL_isMatch_469 : decode cL_isMatch 469 = .ok (.iconst 1, 1) := by decide +kernel
theorem dL_isMatch_470 : decode cL_isMatch 470 = .ok (.goto 4, 3) := by decide +kernel
theorem dL_isMatch_473 : decode cL_isMatch 473 = .ok (.iconst (-1), 1) := by decide +kernel
theorem dL_isMatch_474 : decode cL_isMatch 474 = .ok (.istore 15, 2) := by decide +kernel
theorem dL_isMatch_476 : decode cL_isMatch 476 = .ok (.iinc 14 1, 3) := by decide +kernel
theorem dL_isMatch_479 : decode cL_isMatch 479 = .ok (.iinc 16 1, 3) := by decide +kernel
theorem dL_isMatch_482 : decode cL_isMatch 482 = .ok (.goto (-112), 3) := by decide +kernel
theorem dL_isMatch_485 : decode cL_isMatch 485 = .ok (.aload_n 0, 1) := by decide +kernel
theorem dL_isMatch_486 : decode cL_isMatch 486 = .ok (.iload 13, 2) := by decide +kernel
theorem dL_isMatch_488 : decode cL_isMatch 488 = .ok (.invokestatic 58, 3) := by decide +kernel
theorem dL_isMatch_491 : decode cL_isMatch 491 = .ok (.aload_n 0, 1) := by decide +kernel
theorem dL_isMatch_492 : decode cL_isMatch 492 = .ok (.iload 8, 2) := by decide +kernel
theorem dL_isMatch_494 : decode cL_isMatch 494 = .ok (.iload 13, 2) := by decide +kernel
theorem dL_isMatch_496 : decode cL_isMatch 496 = .ok (.iconst (-1), 1) := by decide +kernel
theorem dL_isMatch_497 : decode cL_isMatch 497 = .ok (.ixor, 1) := by decide +kernel
theorem dL_isMatch_498 : decode cL_isMatch 498 = .ok (.iand, 1) := by decide +kernel
theorem dL_isMatch_499 : decode cL_isMatch 499 = .ok (.invokestatic 58, 3) := by decide +kernel
theorem dL_isMatch_502 : decode cL_isMatch 502 = .ok (.isub, 1) := by decide +kernel
theorem dL_isMatch_503 : decode cL_isMatch 503 = .ok (.istore 16, 2) := by decide +kernel
theorem dL_isMatch_505 : decode cL_isMatch 505 = .ok (.iload 16, 2) := by decide +kernel
theorem dL_isMatch_507 : decode cL_isMatch 507 = .ok (.ifCond .ge 9, 3) := by decide +kernel
theorem dL_isMatch_510 : decode cL_isMatch 510 = .ok (.iload 16, 2) := by decide +kernel
theorem dL_isMatch_512 : decode cL_isMatch 512 = .ok (.ineg, 1) := by decide +kernel
theorem dL_isMatch_513 : decode cL_isMatch 513 = .ok (.goto 5, 3) := by decide +kernel
theorem dL_isMatch_516 : decode cL_isMatch 516 = .ok (.iload 16, 2) := by decide +kernel
theorem dL_isMatch_518 : decode cL_isMatch 518 = .ok (.istore 16, 2) := by decide +kernel
theorem dL_isMatch_520 : decode cL_isMatch 520 = .ok (.iload 12, 2) := by decide +kernel
theorem dL_isMatch_522 : decode cL_isMatch 522 = .ok (.iconst 0, 1) := by decide +kernel
theorem dL_isMatch_523 : decode cL_isMatch 523 = .ok (.invokestatic 48, 3) := by decide +kernel
theorem dL_isMatch_526 : decode cL_isMatch 526 = .ok (.ifCond .eq 45, 3) := by decide +kernel
theorem dL_isMatch_529 : decode cL_isMatch 529 = .ok (.aload_n 2, 1) := by decide +kernel
theorem dL_isMatch_530 : decode cL_isMatch 530 = .ok (.iload 13, 2) := by decide +kernel
theorem dL_isMatch_532 : decode cL_isMatch 532 = .ok (.invokestatic 113, 3) := by decide +kernel
theorem dL_isMatch_535 : decode cL_isMatch 535 = .ok (.ifCond .eq 36, 3) := by decide +kernel
theorem dL_isMatch_538 : decode cL_isMatch 538 = .ok (.aload_n 2, 1) := by decide +kernel
theorem dL_isMatch_539 : decode cL_isMatch 539 = .ok (.iload 8, 2) := by decide +kernel
theorem dL_isMatch_541 : decode cL_isMatch 541 = .ok (.iload 13, 2) := by decide +kernel
theorem dL_isMatch_543 : decode cL_isMatch 543 = .ok (.iconst (-1), 1) := by decide +kernel
theorem dL_isMatch_544 : decode cL_isMatch 544 = .ok (.ixor, 1) := by decide +kernel
theorem dL_isMatch_545 : decode cL_isMatch 545 = .ok (.iand, 1) := by decide +kernel
theorem dL_isMatch_546 : decode cL_isMatch 546 = .ok (.invokestatic 113, 3) := by decide +kernel
theorem dL_isMatch_549 : decode cL_isMatch 549 = .ok (.ifCond .eq 22, 3) := by decide +kernel
theorem dL_isMatch_552 : decode cL_isMatch 552 = .ok (.iload 16, 2) := by decide +kernel
theorem dL_isMatch_554 : decode cL_isMatch 554 = .ok (.iload 11, 2) := by decide +kernel
theorem dL_isMatch_556 : decode cL_isMatch 556 = .ok (.if_icmp .gt 15, 3) := by decide +kernel
theorem dL_isMatch_559 : decode cL_isMatch 559 = .ok (.iload 16, 2) := by decide +kernel
theorem dL_isMatch_561 : decode cL_isMatch 561 = .ok (.iload 11, 2) := by decide +kernel
theorem dL_isMatch_563 : decode cL_isMatch 563 = .ok (.if_icmp .ne 12, 3) := by decide +kernel
theorem dL_isMatch_566 : decode cL_isMatch 566 = .ok (.iload 15, 2) := by decide +kernel
theorem dL_isMatch_568 : decode cL_isMatch 568 = .ok (.ifCond .gt 7, 3) := by decide +kernel
theorem dL_isMatch_571 : decode cL_isMatch 571 = .ok (.iconst 1, 1) := by decide +kernel
theorem dL_isMatch_572 : decode cL_isMatch 572 = .ok (.goto 4, 3) := by decide +kernel
theorem dL_isMatch_575 : decode cL_isMatch 575 = .ok (.iconst 0, 1) := by decide +kernel
theorem dL_isMatch_576 : decode cL_isMatch 576 = .ok (.istore 10, 2) := by decide +kernel
theorem dL_isMatch_578 : decode cL_isMatch 578 = .ok (.iinc 12 1, 3) := by decide +kernel
theorem dL_isMatch_581 : decode cL_isMatch 581 = .ok (.goto (-237), 3) := by decide +kernel
theorem dL_isMatch_584 : decode cL_isMatch 584 = .ok (.iload 10, 2) := by decide +kernel
theorem dL_isMatch_586 : decode cL_isMatch 586 = .ok (.ireturn, 1) := by decide +kernel
