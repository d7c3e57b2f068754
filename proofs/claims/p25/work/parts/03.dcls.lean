set_option maxRecDepth 20000 in
theorem ggX0_init_Jx4a65c_init_da8c8 : GoodIn wsX0_init wsJx4a65c_init_da8c8 := goodIn_r _ [11, 12, 13, 14, 15, 16, 17, 18, 19, 20, 21, 22, 23, 2, 3, 24, 25, 26] (by decide +kernel) (by decide +kernel)
set_option maxRecDepth 20000 in
theorem gX0_init_Jx4a65c_init_da8c8 : GoodIn wsX0_init (wsJx4a65c_init_da8c8) := ggX0_init_Jx4a65c_init_da8c8
theorem dX0_init_0 : decode cX0_init 0 = .ok (.aload_n 0, 1) := by decide +kernel
theorem dX0_init_1 : decode cX0_init 1 = .ok (.invokespecial 3, 3) := by decide +kernel
theorem dX0_init_4 : decode cX0_init 4 = .ok (.aload_n 0, 1) := by decide +kernel
theorem dX0_init_5 : decode cX0_init 5 = .ok (.new 9, 3) := by decide +kernel
theorem dX0_init_8 : decode cX0_init 8 = .ok (.dup, 1) := by decide +kernel
theorem dX0_init_9 : decode cX0_init 9 = .ok (.invokespecial 11, 3) := by decide +kernel
theorem dX0_init_12 : decode cX0_init 12 = .ok (.putfield 12, 3) := by decide +kernel
theorem dX0_init_15 : decode cX0_init 15 = .ok (.aload_n 0, 1) := by decide +kernel
theorem dX0_init_16 : decode cX0_init 16 = .ok (.new 9, 3) := by decide +kernel
theorem dX0_init_19 : decode cX0_init 19 = .ok (.dup, 1) := by decide +kernel
theorem dX0_init_20 : decode cX0_init 20 = .ok (.invokespecial 11, 3) := by decide +kernel
theorem dX0_init_23 : decode cX0_init 23 = .ok (.putfield 18, 3) := by decide +kernel
theorem dX0_init_26 : decode cX0_init 26 = .ok (.return_, 1) := by decide +kernel
set_option maxRecDepth 20000 in
theorem ggX0_findSet_Jx4a65c_clear_da8c8 : GoodIn wsX0_findSet wsJx4a65c_clear_da8c8 := goodIn_r _ [6, 7, 8, 9, 10, 151, 152, 153] (by decide +kernel) (by decide +kernel)
set_option maxRecDepth 20000 in
theorem gX0_findSet_Jx4a65c_clear_da8c8 : GoodIn wsX0_findSet (wsV RX0 21 RJx4a65c yJx4a65c_clear_da8c8 wsJx4a65c_clear_da8c8) := goodIn_app (goodIn_of _ (by decide +kernel)) ggX0_findSet_Jx4a65c_clear_da8c8
set_option maxRecDepth 20000 in
theorem ggX0_findSet_X0_findWith : GoodIn wsX0_findSet wsX0_findWith := goodIn_r _ [14, 15, 16, 17, 18, 1, 19, 20, 21, 5, 22, 10, 23, 24, 25, 26, 27, 28, 29, 30, 31, 32, 33, 34, 35, 36, 37, 38, 9, 39, 40, 41, 42, 43, 44, 45, 46, 47, 48, 49, 50, 51, 52, 53, 7, 8, 54, 55, 56, 57, 58, 59, 60, 61, 62, 63, 64, 65, 66, 67, 68, 69, 70, 71, 72, 73, 74, 75, 76, 77, 78, 79, 80, 81, 82, 83, 84, 85, 86, 87, 88, 89, 90, 91, 92, 93, 94, 95, 96, 97, 98, 99, 100, 101, 102, 103, 13, 104, 105, 106, 107, 108, 109, 110, 111, 112, 113, 114, 115, 116, 117, 118, 119, 120, 121, 122, 123, 124, 125, 126, 127, 128, 129, 130, 131, 132, 133, 134, 135, 136, 137, 138, 139, 140, 141, 142, 143, 144, 145, 11, 12, 146, 147, 148, 149, 150, 151, 152, 153, 154, 155, 156, 157, 158, 159, 160, 161, 162, 163, 164] (by decide +kernel) (by decide +kernel)
set_option maxRecDepth 20000 in
theorem gX0_findSet_X0_findWith : GoodIn wsX0_findSet (va_wsS RX0 24 yX0_findWith wsX0_findWith) := goodIn_app (goodIn_of _ (by decide +kernel)) ggX0_findSet_X0_findWith
theorem dX0_findSet_0 : decode cX0_findSet 0 = .ok (.aload_n 0, 1) := by decide +kernel
theorem dX0_findSet_1 : decode cX0_findSet 1 = .ok (.getfield 18, 3) := by decide +kernel
theorem dX0_findSet_4 : decode cX0_findSet 4 = .ok (.invokevirtual 21, 3) := by decide +kernel
theorem dX0_findSet_7 : decode cX0_findSet 7 = .ok (.aload_n 0, 1) := by decide +kernel
theorem dX0_findSet_8 : decode cX0_findSet 8 = .ok (.iconst 0, 1) := by decide +kernel
theorem dX0_findSet_9 : decode cX0_findSet 9 = .ok (.iconst 0, 1) := by decide +kernel
theorem dX0_findSet_10 : decode cX0_findSet 10 = .ok (.iconst 0, 1) := by decide +kernel
theorem dX0_findSet_11 : decode cX0_findSet 11 = .ok (.invokestatic 24, 3) := by decide +kernel
theorem dX0_findSet_14 : decode cX0_findSet 14 = .ok (.ireturn, 1) := by decide +kernel
set_option maxRecDepth 20000 in
theorem ggX0_findWith_Jx4a65c_size_8abf5 : GoodIn wsX0_findWith wsJx4a65c_size_8abf5 := goodIn_r _ [10, 11, 146, 147, 148] (by decide +kernel) (by decide +kernel)
set_option maxRecDepth 20000 in
theorem gX0_findWith_Jx4a65c_size_8abf5 : GoodIn wsX0_findWith (wsV RX0 28 RJx4a65c yJx4a65c_size_8abf5 wsJx4a65c_size_8abf5) := goodIn_app (goodIn_of _ (by decide +kernel)) ggX0_findWith_Jx4a65c_size_8abf5
set_option maxRecDepth 20000 in
theorem ggX0_findWith_Jx4a65c_get_915e3 : GoodIn wsX0_findWith wsJx4a65c_get_915e3 := goodIn_r _ [15, 11, 16, 17, 18, 19, 20, 21, 22, 23, 24, 25, 26, 9, 27, 28, 146, 147, 148] (by decide +kernel) (by decide +kernel)
set_option maxRecDepth 20000 in
theorem gX0_findWith_Jx4a65c_get_915e3 : GoodIn wsX0_findWith (wsV RX0 32 RJx4a65c yJx4a65c_get_915e3 wsJx4a65c_get_915e3) := goodIn_app (goodIn_of _ (by decide +kernel)) ggX0_findWith_Jx4a65c_get_915e3
set_option maxRecDepth 20000 in
theorem ggX0_findWith_X4_suffice : GoodIn wsX0_findWith wsX4_suffice := goodIn_r _ [32, 33, 34, 35, 36, 37, 38, 39] (by decide +kernel) (by decide +kernel)
set_option maxRecDepth 20000 in
theorem gX0_findWith_X4_suffice : GoodIn wsX0_findWith (va_wsS RX0 45 yX4_suffice wsX4_suffice) := goodIn_app (goodIn_of _ (by decide +kernel)) ggX0_findWith_X4_suffice
set_option maxRecDepth 20000 in
theorem ggX0_findWith_Jx4a65c_add_9ea2d : GoodIn wsX0_findWith wsJx4a65c_add_9ea2d := goodIn_r _ [43, 44, 45, 28, 11, 46, 47, 48, 9, 49, 50, 51, 52, 53, 54, 55, 56, 57, 58, 59, 60, 61, 62, 63, 64, 65, 66, 67, 68, 69, 70, 71, 72, 73, 74, 75, 76, 77, 78, 79, 80, 81, 82, 83, 84, 85, 86, 87, 88, 89, 90, 91, 92, 146, 147, 148] (by decide +kernel) (by decide +kernel)
set_option maxRecDepth 20000 in
theorem gX0_findWith_Jx4a65c_add_9ea2d : GoodIn wsX0_findWith (wsV RX0 51 RJx4a65c yJx4a65c_add_9ea2d wsJx4a65c_add_9ea2d) := goodIn_app (goodIn_of _ (by decide +kernel)) ggX0_findWith_Jx4a65c_add_9ea2d
set_option maxRecDepth 20000 in
theorem ggX0_findWith_X0_split : GoodIn wsX0_findWith wsX0_split := goodIn_r _ [97, 98, 5, 6, 7, 8, 9, 10, 11, 99, 100, 101, 96, 102, 2, 3, 103, 4, 104, 105, 61, 106, 107, 108, 12, 13, 14, 15, 16, 17, 18, 19, 20, 21, 22, 23, 24, 25, 26, 27, 28, 109, 110, 111, 112, 113, 114, 115, 116, 117, 118, 29, 30, 31, 32, 33, 34, 35, 36, 37, 38, 39, 141, 142, 143, 144, 145, 146, 147, 148, 149, 150, 151, 152, 153, 154, 155, 156, 157, 158, 159] (by decide +kernel) (by decide +kernel)
set_option maxRecDepth 20000 in
theorem gX0_findWith_X0_split : GoodIn wsX0_findWith (wsV RX0 55 RX0 yX0_split wsX0_split) := goodIn_app (goodIn_of _ (by decide +kernel)) ggX0_findWith_X0_split
set_option maxRecDepth 20000 in
theorem ggX0_findWith_X0_findAfter : GoodIn wsX0_findWith wsX0_findAfter := goodIn_r _ [138, 1, 6, 7, 8, 9, 10, 11, 139, 140, 96, 0, 2, 3, 4, 5, 12, 13, 14, 15, 16, 17, 18, 19, 20, 21, 22, 23, 24, 25, 26, 27, 28, 29, 30, 31, 32, 33, 34, 35, 36, 37, 38, 39, 40, 41, 42, 43, 44, 45, 46, 47, 48, 49, 50, 51, 52, 53, 54, 55, 56, 57, 58, 59, 60, 61, 62, 63, 64, 65, 66, 67, 68, 69, 70, 71, 72, 73, 74, 75, 76, 77, 78, 79, 80, 81, 82, 83, 84, 85, 86, 87, 88, 89, 90, 91, 92, 93, 94, 95, 97, 98, 99, 100, 101, 102, 103, 104, 105, 106, 107, 108, 109, 110, 111, 112, 113, 114, 115, 116, 117, 118, 119, 120, 121, 122, 123, 124, 125, 126, 127, 128, 129, 130, 131, 132, 133, 134, 135, 136, 137, 141, 142, 143, 144, 145, 146, 147, 148, 149, 150, 151, 152, 153, 154, 155, 156, 157, 158, 159] (by decide +kernel) (by decide +kernel)
set_option maxRecDepth 20000 in
theorem gX0_findWith_X0_findAfter : GoodIn wsX0_findWith (va_wsS RX0 59 yX0_findAfter wsX0_findAfter) := goodIn_app (goodIn_of _ (by decide +kernel)) ggX0_findWith_X0_findAfter
set_option maxRecDepth 20000 in
theorem ggX0_findWith_X0_dropLast : GoodIn wsX0_findWith wsX0_dropLast := goodIn_r _ [124, 5, 125, 126, 127, 9, 128, 11, 6, 7, 8, 10, 129, 130, 131, 132, 28, 16, 17, 18, 19, 20, 21, 22, 23, 133, 134, 135, 136, 44, 45, 137, 90, 91, 92, 141, 142, 143, 144, 145, 146, 147, 148] (by decide +kernel) (by decide +kernel)
set_option maxRecDepth 20000 in
theorem gX0_findWith_X0_dropLast : GoodIn wsX0_findWith (wsV RX0 62 RX0 yX0_dropLast wsX0_dropLast) := goodIn_app (goodIn_of _ (by decide +kernel)) ggX0_findWith_X0_dropLast
theorem dX0_findWith_0 : decode cX0_findWith 0 = .ok (.iload_n 1, 1) := by decide +kernel
theorem dX0_findWith_1 : decode cX0_findWith 1 = .ok (.ifCond .lt 20, 3) := by decide +kernel
theorem dX0_findWith_4 : decode cX0_findWith 4 = .ok (.iload_n 1, 1) := by decide +kernel
theorem dX0_findWith_5 : decode cX0_findWith 5 = .ok (.aload_n 0, 1) := by decide +kernel
theorem dX0_findWith_6 : decode cX0_findWith 6 = .ok (.getfield 12, 3) := by decide +kernel
theorem dX0_findWith_9 : decode cX0_findWith 9 = .ok (.invokevirtual 28, 3) := by decide +kernel
theorem dX0_findWith_12 : decode cX0_findWith 12 = .ok (.if_icmp .ge 9, 3) := by decide +kernel
theorem dX0_findWith_15 : decode cX0_findWith 15 = .ok (.iload_n 2, 1) := by decide +kernel
theorem dX0_findWith_16 : decode cX0_findWith 16 = .ok (.bipush 6, 2) := by decide +kernel
theorem dX0_findWith_18 : decode cX0_findWith 18 = .ok (.if_icmp .lt 5, 3) := by decide +kernel
theorem dX0_findWith_21 : decode cX0_findWith 21 = .ok (.iconst 0, 1) := by decide +kernel
theorem dX0_findWith_22 : decode cX0_findWith 22 = .ok (.ireturn, 1) := by decide +kernel
theorem dX0_findWith_23 : decode cX0_findWith 23 = .ok (.aload_n 0, 1) := by decide +kernel
theorem dX0_findWith_24 : decode cX0_findWith 24 = .ok (.getfield 12, 3) := by decide +kernel
theorem dX0_findWith_27 : decode cX0_findWith 27 = .ok (.iload_n 1, 1) := by decide +kernel
theorem dX0_findWith_28 : decode cX0_findWith 28 = .ok (.invokevirtual 32, 3) := by decide +kernel
theorem dX0_findWith_31 : decode cX0_findWith 31 = .ok (.checkcast 36, 3) := by decide +kernel
theorem dX0_findWith_34 : decode cX0_findWith 34 = .ok (.astore 4, 2) := by decide +kernel
theorem dX0_findWith_36 : decode cX0_findWith 36 = .ok (.iload_n 2, 1) := by decide +kernel
theorem dX0_findWith_37 : decode cX0_findWith 37 = .ok (.aload 4, 2) := by decide +kernel
theorem dX0_findWith_39 : decode cX0_findWith 39 = .ok (.getfield 38, 3) := by decide +kernel
theorem dX0_findWith_42 : decode cX0_findWith 42 = .ok (.invokevirtual 28, 3) := by decide +kernel
theorem dX0_findWith_45 : decode cX0_findWith 45 = .ok (.iadd, 1) := by decide +kernel
theorem dX0_findWith_46 : decode cX0_findWith 46 = .ok (.istore 5, 2) := by decide +kernel
theorem dX0_findWith_48 : decode cX0_findWith 48 = .ok (.iload_n 3, 1) := by decide +kernel
theorem dX0_findWith_49 : decode cX0_findWith 49 = .ok (.aload 4, 2) := by decide +kernel
theorem dX0_findWith_51 : decode cX0_findWith 51 = .ok (.getfield 41, 3) := by decide +kernel
theorem dX0_findWith_54 : decode cX0_findWith 54 = .ok (.iadd, 1) := by decide +kernel
theorem dX0_findWith_55 : decode cX0_findWith 55 = .ok (.istore 6, 2) := by decide +kernel
theorem dX0_findWith_57 : decode cX0_findWith 57 = .ok (.iload 5, 2) := by decide +kernel
theorem dX0_findWith_59 : decode cX0_findWith 59 = .ok (.bipush 6, 2) := by decide +kernel
theorem dX0_findWith_61 : decode cX0_findWith 61 = .ok (.if_icmp .gt 12, 3) := by decide +kernel
theorem dX0_findWith_64 : decode cX0_findWith 64 = .ok (.iload 6, 2) := by decide +kernel
theorem dX0_findWith_66 : decode cX0_findWith 66 = .ok (.iconst 2, 1) := by decide +kernel
theorem dX0_findWith_67 : decode cX0_findWith 67 = .ok (.invokestatic 45, 3) := by decide +kernel
theorem dX0_findWith_70 : decode cX0_findWith 70 = .ok (.ifCond .ne 5, 3) := by decide +kernel
theorem dX0_findWith_73 : decode cX0_findWith 73 = .ok (.iconst 0, 1) := by decide +kernel
theorem dX0_findWith_74 : decode cX0_findWith 74 = .ok (.ireturn, 1) := by decide +kernel
theorem dX0_findWith_75 : decode cX0_findWith 75 = .ok (.aload_n 0, 1) := by decide +kernel
theorem dX0_findWith_76 : decode cX0_findWith 76 = .ok (.getfield 18, 3) := by decide +kernel
theorem dX0_findWith_79 : decode cX0_findWith 79 = .ok (.aload 4, 2) := by decide +kernel
theorem dX0_findWith_81 : decode cX0_findWith 81 = .ok (.invokevirtual 51, 3) := by decide +kernel
theorem dX0_findWith_84 : decode cX0_findWith 84 = .ok (.pop, 1) := by decide +kernel
theorem dX0_findWith_85 : decode cX0_findWith 85 = .ok (.iload 5, 2) := by decide +kernel
theorem dX0_findWith_87 : decode cX0_findWith 87 = .ok (.bipush 6, 2) := by decide +kernel
theorem dX0_findWith_89 : decode cX0_findWith 89 = .ok (.if_icmp .ne 13, 3) := by decide +kernel
theorem dX0_findWith_92 : decode cX0_findWith 92 = .ok (.aload_n 0, 1) := by decide +kernel
theorem dX0_findWith_93 : decode cX0_findWith 93 = .ok (.invokevirtual 55, 3) := by decide +kernel
theorem dX0_findWith_96 : decode cX0_findWith 96 = .ok (.ifCond .eq 20, 3) := by decide +kernel
theorem dX0_findWith_99 : decode cX0_findWith 99 = .ok (.goto 15, 3) := by decide +kernel
theorem dX0_findWith_102 : decode cX0_findWith 102 = .ok (.aload_n 0, 1) := by decide +kernel
theorem dX0_findWith_103 : decode cX0_findWith 103 = .ok (.iload_n 1, 1) := by decide +kernel
theorem dX0_findWith_104 : decode cX0_findWith 104 = .ok (.iload 5, 2) := by decide +kernel
theorem dX0_findWith_106 : decode cX0_findWith 106 = .ok (.iload 6, 2) := by decide +kernel
theorem dX0_findWith_108 : decode cX0_findWith 108 = .ok (.invokestatic 59, 3) := by decide +kernel
theorem dX0_findWith_111 : decode cX0_findWith 111 = .ok (.ifCond .eq 5, 3) := by decide +kernel
theorem dX0_findWith_114 : decode cX0_findWith 114 = .ok (.iconst 1, 1) := by decide +kernel
theorem dX0_findWith_115 : decode cX0_findWith 115 = .ok (.ireturn, 1) := by decide +kernel
theorem dX0_findWith_116 : decode cX0_findWith 116 = .ok (.aload_n 0, 1) := by decide +kernel
theorem dX0_findWith_117 : decode cX0_findWith 117 = .ok (.invokevirtual 62, 3) := by decide +kernel
theorem dX0_findWith_120 : decode cX0_findWith 120 = .ok (.iconst 0, 1) := by decide +kernel
theorem dX0_findWith_121 : decode cX0_findWith 121 = .ok (.ireturn, 1) := by decide +kernel
set_option maxRecDepth 20000 in
theorem ggX0_findAfter_Jx4a65c_size_8abf5 : GoodIn wsX0_findAfter wsJx4a65c_size_8abf5 := goodIn_r _ [6, 7, 146, 147, 148] (by decide +kernel) (by decide +kernel)
set_option maxRecDepth 20000 in
theorem gX0_findAfter_Jx4a65c_size_8abf5 : GoodIn wsX0_findAfter (wsV RX0 28 RJx4a65c yJx4a65c_size_8abf5 wsJx4a65c_size_8abf5) := goodIn_app (goodIn_of _ (by decide +kernel)) ggX0_findAfter_Jx4a65c_size_8abf5
set_option maxRecDepth 20000 in
theorem ggX0_findAfter_X0_findWith : GoodIn wsX0_findAfter wsX0_findWith := goodIn_r _ [11, 1, 12, 13, 14, 15, 2, 3, 4, 5, 6, 7, 16, 17, 18, 19, 20, 21, 22, 23, 24, 25, 26, 27, 28, 29, 30, 31, 32, 33, 34, 35, 36, 37, 38, 39, 40, 41, 42, 43, 44, 45, 46, 47, 48, 49, 50, 51, 52, 53, 54, 55, 56, 57, 58, 59, 60, 61, 62, 63, 64, 65, 66, 67, 68, 69, 70, 71, 72, 73, 74, 75, 76, 77, 78, 79, 80, 81, 82, 83, 84, 85, 86, 87, 88, 89, 90, 91, 92, 93, 94, 95, 96, 97, 98, 99, 10, 100, 101, 102, 103, 104, 105, 106, 107, 108, 109, 110, 111, 112, 113, 114, 115, 116, 117, 118, 119, 120, 121, 122, 123, 124, 125, 126, 127, 128, 129, 130, 131, 132, 133, 134, 135, 136, 137, 138, 139, 140, 0, 8, 9, 141, 142, 143, 144, 145, 146, 147, 148, 149, 150, 151, 152, 153, 154, 155, 156, 157, 158, 159] (by decide +kernel) (by decide +kernel)
set_option maxRecDepth 20000 in
theorem gX0_findAfter_X0_findWith : GoodIn wsX0_findAfter (va_wsS RX0 24 yX0_findWith wsX0_findWith) := goodIn_app (goodIn_of _ (by decide +kernel)) ggX0_findAfter_X0_findWith
theorem dX0_findAfter_0 : decode cX0_findAfter 0 = .ok (.iload_n 1, 1) := by decide +kernel
theorem dX0_findAfter_1 : decode cX0_findAfter 1 = .ok (.iconst 1, 1) := by decide +kernel
theorem dX0_findAfter_2 : decode cX0_findAfter 2 = .ok (.iadd, 1) := by decide +kernel
theorem dX0_findAfter_3 : decode cX0_findAfter 3 = .ok (.istore 4, 2) := by decide +kernel
theorem dX0_findAfter_5 : decode cX0_findAfter 5 = .ok (.iload 4, 2) := by decide +kernel
theorem dX0_findAfter_7 : decode cX0_findAfter 7 = .ok (.aload_n 0, 1) := by decide +kernel
theorem dX0_findAfter_8 : decode cX0_findAfter 8 = .ok (.getfield 12, 3) := by decide +kernel
theorem dX0_findAfter_11 : decode cX0_findAfter 11 = .ok (.invokevirtual 28, 3) := by decide +kernel
theorem dX0_findAfter_14 : decode cX0_findAfter 14 = .ok (.if_icmp .ge 22, 3) := by decide +kernel
theorem dX0_findAfter_17 : decode cX0_findAfter 17 = .ok (.aload_n 0, 1) := by decide +kernel
theorem dX0_findAfter_18 : decode cX0_findAfter 18 = .ok (.iload 4, 2) := by decide +kernel
theorem dX0_findAfter_20 : decode cX0_findAfter 20 = .ok (.iload_n 2, 1) := by decide +kernel
theorem dX0_findAfter_21 : decode cX0_findAfter 21 = .ok (.iload_n 3, 1) := by decide +kernel
theorem dX0_findAfter_22 : decode cX0_findAfter 22 = .ok (.invokestatic 24, 3) := by decide +kernel
theorem dX0_findAfter_25 : decode cX0_findAfter 25 = .ok (.ifCond .eq 5, 3) := by decide +kernel
theorem dX0_findAfter_28 : decode cX0_findAfter 28 = .ok (.iconst 1, 1) := by decide +kernel
theorem dX0_findAfter_29 : decode cX0_findAfter 29 = .ok (.ireturn, 1) := by decide +kernel
theorem dX0_findAfter_30 : decode cX0_findAfter 30 = .ok (.iinc 4 1, 3) := by decide +kernel
theorem dX0_findAfter_33 : decode cX0_findAfter 33 = .ok (.goto (-28), 3) := by decide +kernel
theorem dX0_findAfter_36 : decode cX0_findAfter 36 = .ok (.iconst 0, 1) := by decide +kernel
theorem dX0_findAfter_37 : decode cX0_findAfter 37 = .ok (.ireturn, 1) := by decide +kernel
set_option maxRecDepth 20000 in
theorem ggX0_dropLast_Jx4a65c_isEmpty_aae02 : GoodIn wsX0_dropLast wsJx4a65c_isEmpty_aae02 := goodIn_r _ [6, 7, 40, 41, 42] (by decide +kernel) (by decide +kernel)
set_option maxRecDepth 20000 in
theorem gX0_dropLast_Jx4a65c_isEmpty_aae02 : GoodIn wsX0_dropLast (wsV RX0 65 RJx4a65c yJx4a65c_isEmpty_aae02 wsJx4a65c_isEmpty_aae02) := goodIn_app (goodIn_of _ (by decide +kernel)) ggX0_dropLast_Jx4a65c_isEmpty_aae02
set_option maxRecDepth 20000 in
theorem ggX0_dropLast_Jx4a65c_size_8abf5 : GoodIn wsX0_dropLast wsJx4a65c_size_8abf5 := goodIn_r _ [11, 7, 40, 41, 42] (by decide +kernel) (by decide +kernel)
set_option maxRecDepth 20000 in
theorem gX0_dropLast_Jx4a65c_size_8abf5 : GoodIn wsX0_dropLast (wsV RX0 28 RJx4a65c yJx4a65c_size_8abf5 wsJx4a65c_size_8abf5) := goodIn_app (goodIn_of _ (by decide +kernel)) ggX0_dropLast_Jx4a65c_size_8abf5
set_option maxRecDepth 20000 in
theorem ggX0_dropLast_Jx4a65c_remove_915e3 : GoodIn wsX0_dropLast wsJx4a65c_remove_915e3 := goodIn_r _ [15, 7, 16, 17, 18, 19, 20, 21, 22, 23, 24, 25, 26, 27, 5, 28, 29, 30, 31, 32, 33, 34, 40, 41, 42] (by decide +kernel) (by decide +kernel)
set_option maxRecDepth 20000 in
theorem gX0_dropLast_Jx4a65c_remove_915e3 : GoodIn wsX0_dropLast (wsV RX0 68 RJx4a65c yJx4a65c_remove_915e3 wsJx4a65c_remove_915e3) := goodIn_app (goodIn_of _ (by decide +kernel)) ggX0_dropLast_Jx4a65c_remove_915e3
theorem dX0_dropLast_0 : decode cX0_dropLast 0 = .ok (.aload_n 0, 1) := by decide +kernel
theorem dX0_dropLast_1 : decode cX0_dropLast 1 = .ok (.getfield 18, 3) := by decide +kernel
theorem dX0_dropLast_4 : decode cX0_dropLast 4 = .ok (.invokevirtual 65, 3) := by decide +kernel
theorem dX0_dropLast_7 : decode cX0_dropLast 7 = .ok (.ifCond .ne 20, 3) := by decide +kernel
theorem dX0_dropLast_10 : decode cX0_dropLast 10 = .ok (.aload_n 0, 1) := by decide +kernel
theorem dX0_dropLast_11 : decode cX0_dropLast 11 = .ok (.getfield 18, 3) := by decide +kernel
theorem dX0_dropLast_14 : decode cX0_dropLast 14 = .ok (.aload_n 0, 1) := by decide +kernel
theorem dX0_dropLast_15 : decode cX0_dropLast 15 = .ok (.getfield 18, 3) := by decide +kernel
theorem dX0_dropLast_18 : decode cX0_dropLast 18 = .ok (.invokevirtual 28, 3) := by decide +kernel
theorem dX0_dropLast_21 : decode cX0_dropLast 21 = .ok (.iconst 1, 1) := by decide +kernel
theorem dX0_dropLast_22 : decode cX0_dropLast 22 = .ok (.isub, 1) := by decide +kernel
theorem dX0_dropLast_23 : decode cX0_dropLast 23 = .ok (.invokevirtual 68, 3) := by decide +kernel
theorem dX0_dropLast_26 : decode cX0_dropLast 26 = .ok (.pop, 1) := by decide +kernel
theorem dX0_dropLast_27 : decode cX0_dropLast 27 = .ok (.return_, 1) := by decide +kernel
set_option maxRecDepth 20000 in
theorem ggX0_split_Jx4a65c_size_8abf5 : GoodIn wsX0_split wsJx4a65c_size_8abf5 := goodIn_r _ [7, 8, 67, 68, 69] (by decide +kernel) (by decide +kernel)
set_option maxRecDepth 20000 in
theorem gX0_split_Jx4a65c_size_8abf5 : GoodIn wsX0_split (wsV RX0 28 RJx4a65c yJx4a65c_size_8abf5 wsJx4a65c_size_8abf5) := goodIn_app (goodIn_of _ (by decide +kernel)) ggX0_split_Jx4a65c_size_8abf5
set_option maxRecDepth 20000 in
theorem ggX0_split_X0_weigh : GoodIn wsX0_split wsX0_weigh := goodIn_r _ [13, 2, 14, 15, 16, 17, 1, 18, 19, 20, 21, 22, 23, 3, 4, 5, 6, 7, 8, 24, 25, 26, 27, 28, 29, 30, 31, 32, 33, 34, 35, 36, 37, 38, 39, 40, 41, 42, 43, 44, 45, 46, 47, 48, 49, 50, 51, 52, 53, 54, 55, 56, 57, 58, 59, 60, 61, 62, 63, 64, 65, 66, 70, 71, 72, 73, 74, 67, 68, 69, 75, 76, 77, 78, 79, 80] (by decide +kernel) (by decide +kernel)
set_option maxRecDepth 20000 in
theorem gX0_split_X0_weigh : GoodIn wsX0_split (wsV RX0 74 RX0 yX0_weigh wsX0_weigh) := goodIn_app (goodIn_of _ (by decide +kernel)) ggX0_split_X0_weigh
theorem dX0_split_0 : decode cX0_split 0 = .ok (.aload_n 0, 1) := by decide +kernel
theorem dX0_split_1 : decode cX0_split 1 = .ok (.iconst (-1), 1) := by decide +kernel
theorem dX0_split_2 : decode cX0_split 2 = .ok (.putfield 71, 3) := by decide +kernel
theorem dX0_split_5 : decode cX0_split 5 = .ok (.iconst 1, 1) := by decide +kernel
theorem dX0_split_6 : decode cX0_split 6 = .ok (.aload_n 0, 1) := by decide +kernel
theorem dX0_split_7 : decode cX0_split 7 = .ok (.getfield 18, 3) := by decide +kernel
theorem dX0_split_10 : decode cX0_split 10 = .ok (.invokevirtual 28, 3) := by decide +kernel
theorem dX0_split_13 : decode cX0_split 13 = .ok (.iconst 1, 1) := by decide +kernel
theorem dX0_split_14 : decode cX0_split 14 = .ok (.isub, 1) := by decide +kernel
theorem dX0_split_15 : decode cX0_split 15 = .ok (.ishl, 1) := by decide +kernel
theorem dX0_split_16 : decode cX0_split 16 = .ok (.istore_n 1, 1) := by decide +kernel
theorem dX0_split_17 : decode cX0_split 17 = .ok (.iconst 2, 1) := by decide +kernel
theorem dX0_split_18 : decode cX0_split 18 = .ok (.iload_n 1, 1) := by decide +kernel
theorem dX0_split_19 : decode cX0_split 19 = .ok (.imul, 1) := by decide +kernel
theorem dX0_split_20 : decode cX0_split 20 = .ok (.iconst 1, 1) := by decide +kernel
theorem dX0_split_21 : decode cX0_split 21 = .ok (.isub, 1) := by decide +kernel
theorem dX0_split_22 : decode cX0_split 22 = .ok (.istore_n 2, 1) := by decide +kernel
theorem dX0_split_23 : decode cX0_split 23 = .ok (.iload_n 2, 1) := by decide +kernel
theorem dX0_split_24 : decode cX0_split 24 = .ok (.iload_n 1, 1) := by decide +kernel
theorem dX0_split_25 : decode cX0_split 25 = .ok (.if_icmp .lt 14, 3) := by decide +kernel
theorem dX0_split_28 : decode cX0_split 28 = .ok (.aload_n 0, 1) := by decide +kernel
theorem dX0_split_29 : decode cX0_split 29 = .ok (.iload_n 2, 1) := by decide +kernel
theorem dX0_split_30 : decode cX0_split 30 = .ok (.invokevirtual 74, 3) := by decide +kernel
theorem dX0_split_33 : decode cX0_split 33 = .ok (.iinc 2 (-1), 3) := by decide +kernel
theorem dX0_split_36 : decode cX0_split 36 = .ok (.goto (-13), 3) := by decide +kernel
theorem dX0_split_39 : decode cX0_split 39 = .ok (.aload_n 0, 1) := by decide +kernel
theorem dX0_split_40 : decode cX0_split 40 = .ok (.getfield 71, 3) := by decide +kernel
theorem dX0_split_43 : decode cX0_split 43 = .ok (.iconst (-1), 1) := by decide +kernel
theorem dX0_split_44 : decode cX0_split 44 = .ok (.if_icmp .eq 7, 3) := by decide +kernel
theorem dX0_split_47 : decode cX0_split 47 = .ok (.iconst 1, 1) := by decide +kernel
theorem dX0_split_48 : decode cX0_split 48 = .ok (.goto 4, 3) := by decide +kernel
theorem dX0_split_51 : decode cX0_split 51 = .ok (.iconst 0, 1) := by decide +kernel
theorem dX0_split_52 : decode cX0_split 52 = .ok (.ireturn, 1) := by decide +kernel
set_option maxRecDepth 20000 in
theorem ggX0_weigh_Jx4a65c_size_8abf5 : GoodIn wsX0_weigh wsJx4a65c_size_8abf5 := goodIn_r _ [17, 18, 67, 68, 69] (by decide +kernel) (by decide +kernel)
set_option maxRecDepth 20000 in
theorem gX0_weigh_Jx4a65c_size_8abf5 : GoodIn wsX0_weigh (wsV RX0 28 RJx4a65c yJx4a65c_size_8abf5 wsJx4a65c_size_8abf5) := goodIn_app (goodIn_of _ (by decide +kernel)) ggX0_weigh_Jx4a65c_size_8abf5
set_option maxRecDepth 20000 in
theorem ggX0_weigh_Jx4a65c_get_915e3 : GoodIn wsX0_weigh wsJx4a65c_get_915e3 := goodIn_r _ [22, 18, 23, 24, 25, 26, 27, 28, 29, 30, 31, 32, 33, 16, 34, 35, 67, 68, 69] (by decide +kernel) (by decide +kernel)
set_option maxRecDepth 20000 in
theorem gX0_weigh_Jx4a65c_get_915e3 : GoodIn wsX0_weigh (wsV RX0 32 RJx4a65c yJx4a65c_get_915e3 wsJx4a65c_get_915e3) := goodIn_app (goodIn_of _ (by decide +kernel)) ggX0_weigh_Jx4a65c_get_915e3
set_option maxRecDepth 20000 in
theorem ggX0_weigh_X2_points : GoodIn wsX0_weigh wsX2_points := goodIn_r _ [40, 41, 42, 43, 44, 14, 15, 16, 17, 18, 45, 20, 21, 22, 23, 24, 25, 26, 27, 28, 29, 30, 31, 32, 33, 34, 35, 62, 63, 64, 65, 66, 70, 71, 72, 73, 74, 75, 67, 68, 69] (by decide +kernel) (by decide +kernel)
set_option maxRecDepth 20000 in
theorem gX0_weigh_X2_points : GoodIn wsX0_weigh (wsV RX0 78 RX2 yX2_points wsX2_points) := goodIn_app (goodIn_of _ (by decide +kernel)) ggX0_weigh_X2_points
set_option maxRecDepth 20000 in
theorem ggX0_weigh_X4_suffice : GoodIn wsX0_weigh wsX4_suffice := goodIn_r _ [49, 50, 51, 52, 53, 54, 55, 56] (by decide +kernel) (by decide +kernel)
set_option maxRecDepth 20000 in
theorem gX0_weigh_X4_suffice : GoodIn wsX0_weigh (va_wsS RX0 45 yX4_suffice wsX4_suffice) := goodIn_app (goodIn_of _ (by decide +kernel)) ggX0_weigh_X4_suffice
theorem dX0_weigh_0 : decode cX0_weigh 0 = .ok (.iconst 0, 1) := by decide +kernel
theorem dX0_weigh_1 : decode cX0_weigh 1 = .ok (.istore_n 2, 1) := by decide +kernel
theorem dX0_weigh_2 : decode cX0_weigh 2 = .ok (.iconst 0, 1) := by decide +kernel
theorem dX0_weigh_3 : decode cX0_weigh 3 = .ok (.istore_n 3, 1) := by decide +kernel
theorem dX0_weigh_4 : decode cX0_weigh 4 = .ok (.iconst 0, 1) := by decide +kernel
theorem dX0_weigh_5 : decode cX0_weigh 5 = .ok (.istore 4, 2) := by decide +kernel
theorem dX0_weigh_7 : decode cX0_weigh 7 = .ok (.iconst 0, 1) := by decide +kernel
theorem dX0_weigh_8 : decode cX0_weigh 8 = .ok (.istore 5, 2) := by decide +kernel
theorem dX0_weigh_10 : decode cX0_weigh 10 = .ok (.iconst 0, 1) := by decide +kernel
theorem dX0_weigh_11 : decode cX0_weigh 11 = .ok (.istore 6, 2) := by decide +kernel
theorem dX0_weigh_13 : decode cX0_weigh 13 = .ok (.iconst 0, 1) := by decide +kernel
theorem dX0_weigh_14 : decode cX0_weigh 14 = .ok (.istore 7, 2) := by decide +kernel
theorem dX0_weigh_16 : decode cX0_weigh 16 = .ok (.iconst 0, 1) := by decide +kernel
theorem dX0_weigh_17 : decode cX0_weigh 17 = .ok (.istore 8, 2) := by decide +kernel
theorem dX0_weigh_19 : decode cX0_weigh 19 = .ok (.iload 8, 2) := by decide +kernel
theorem dX0_weigh_21 : decode cX0_weigh 21 = .ok (.aload_n 0, 1) := by decide +kernel
theorem dX0_weigh_22 : decode cX0_weigh 22 = .ok (.getfield 18, 3) := by decide +kernel
theorem dX0_weigh_25 : decode cX0_weigh 25 = .ok (.invokevirtual 28, 3) := by decide +kernel
theorem dX0_weigh_28 : decode cX0_weigh 28 = .ok (.if_icmp .ge 112, 3) := by decide +kernel
theorem dX0_weigh_31 : decode cX0_weigh 31 = .ok (.aload_n 0, 1) := by decide +kernel
theorem dX0_weigh_32 : decode cX0_weigh 32 = .ok (.getfield 18, 3) := by decide +kernel
theorem dX0_weigh_35 : decode cX0_weigh 35 = .ok (.iload 8, 2) := by decide +kernel
theorem dX0_weigh_37 : decode cX0_weigh 37 = .ok (.invokevirtual 32, 3) := by decide +kernel
theorem dX0_weigh_40 : decode cX0_weigh 40 = .ok (.checkcast 36, 3) := by decide +kernel
theorem dX0_weigh_43 : decode cX0_weigh 43 = .ok (.astore 9, 2) := by decide +kernel
theorem dX0_weigh_45 : decode cX0_weigh 45 = .ok (.iload_n 1, 1) := by decide +kernel
theorem dX0_weigh_46 : decode cX0_weigh 46 = .ok (.aload_n 0, 1) := by decide +kernel
theorem dX0_weigh_47 : decode cX0_weigh 47 = .ok (.getfield 18, 3) := by decide +kernel
theorem dX0_weigh_50 : decode cX0_weigh 50 = .ok (.invokevirtual 28, 3) := by decide +kernel
theorem dX0_weigh_53 : decode cX0_weigh 53 = .ok (.iconst 1, 1) := by decide +kernel
theorem dX0_weigh_54 : decode cX0_weigh 54 = .ok (.isub, 1) := by decide +kernel
theorem dX0_weigh_55 : decode cX0_weigh 55 = .ok (.iload 8, 2) := by decide +kernel
theorem dX0_weigh_57 : decode cX0_weigh 57 = .ok (.isub, 1) := by decide +kernel
theorem dX0_weigh_58 : decode cX0_weigh 58 = .ok (.ishr, 1) := by decide +kernel
theorem dX0_weigh_59 : decode cX0_weigh 59 = .ok (.iconst 1, 1) := by decide +kernel
theorem dX0_weigh_60 : decode cX0_weigh 60 = .ok (.iand, 1) := by decide +kernel
theorem dX0_weigh_61 : decode cX0_weigh 61 = .ok (.ifCond .eq 45, 3) := by decide +kernel
theorem dX0_weigh_64 : decode cX0_weigh 64 = .ok (.iload_n 2, 1) := by decide +kernel
theorem dX0_weigh_65 : decode cX0_weigh 65 = .ok (.aload 9, 2) := by decide +kernel
theorem dX0_weigh_67 : decode cX0_weigh 67 = .ok (.getfield 38, 3) := by decide +kernel
theorem dX0_weigh_70 : decode cX0_weigh 70 = .ok (.invokevirtual 28, 3) := by decide +kernel
theorem dX0_weigh_73 : decode cX0_weigh 73 = .ok (.iadd, 1) := by decide +kernel
theorem dX0_weigh_74 : decode cX0_weigh 74 = .ok (.istore_n 2, 1) := by decide +kernel
theorem dX0_weigh_75 : decode cX0_weigh 75 = .ok (.iload_n 3, 1) := by decide +kernel
theorem dX0_weigh_76 : decode cX0_weigh 76 = .ok (.aload 9, 2) := by decide +kernel
theorem dX0_weigh_78 : decode cX0_weigh 78 = .ok (.invokevirtual 78, 3) := by decide +kernel
theorem dX0_weigh_81 : decode cX0_weigh 81 = .ok (.iadd, 1) := by decide +kernel
theorem dX0_weigh_82 : decode cX0_weigh 82 = .ok (.istore_n 3, 1) := by decide +kernel
theorem dX0_weigh_83 : decode cX0_weigh 83 = .ok (.iload 4, 2) := by decide +kernel
theorem dX0_weigh_85 : decode cX0_weigh 85 = .ok (.aload 9, 2) := by decide +kernel
theorem dX0_weigh_87 : decode cX0_weigh 87 = .ok (.getfield 81, 3) := by decide +kernel
theorem dX0_weigh_90 : decode cX0_weigh 90 = .ok (.ior, 1) := by decide +kernel
theorem dX0_weigh_91 : decode cX0_weigh 91 = .ok (.istore 4, 2) := by decide +kernel
theorem dX0_weigh_93 : decode cX0_weigh 93 = .ok (.iload 6, 2) := by decide +kernel
theorem dX0_weigh_95 : decode cX0_weigh 95 = .ok (.aload 9, 2) := by decide +kernel
theorem dX0_weigh_97 : decode cX0_weigh 97 = .ok (.getfield 41, 3) := by decide +kernel
theorem dX0_weigh_100 : decode cX0_weigh 100 = .ok (.iadd, 1) := by decide +kernel
theorem dX0_weigh_101 : decode cX0_weigh 101 = .ok (.istore 6, 2) := by decide +kernel
theorem dX0_weigh_103 : decode cX0_weigh 103 = .ok (.goto 31, 3) := by decide +kernel
theorem dX0_weigh_106 : decode cX0_weigh 106 = .ok (.iload_n 3, 1) := by decide +kernel
theorem dX0_weigh_107 : decode cX0_weigh 107 = .ok (.aload 9, 2) := by decide +kernel
theorem dX0_weigh_109 : decode cX0_weigh 109 = .ok (.invokevirtual 78, 3) := by decide +kernel
theorem dX0_weigh_112 : decode cX0_weigh 112 = .ok (.isub, 1) := by decide +kernel
theorem dX0_weigh_113 : decode cX0_weigh 113 = .ok (.istore_n 3, 1) := by decide +kernel
theorem dX0_weigh_114 : decode cX0_weigh 114 = .ok (.iload 5, 2) := by decide +kernel
theorem dX0_weigh_116 : decode cX0_weigh 116 = .ok (.aload 9, 2) := by decide +kernel
theorem dX0_weigh_118 : decode cX0_weigh 118 = .ok (.getfield 81, 3) := by decide +kernel
theorem dX0_weigh_121 : decode cX0_weigh 121 = .ok (.ior, 1) := by decide +kernel
theorem dX0_weigh_122 : decode cX0_weigh 122 = .ok (.istore 5, 2) := by decide +kernel
theorem dX0_weigh_124 : decode cX0_weigh 124 = .ok (.iload 7, 2) := by decide +kernel
theorem dX0_weigh_126 : decode cX0_weigh 126 = .ok (.aload 9, 2) := by decide +kernel
theorem dX0_weigh_128 : decode cX0_weigh 128 = .ok (.getfield 41, 3) := by decide +kernel
theorem dX0_weigh_131 : decode cX0_weigh 131 = .ok (.iadd, 1) := by decide +kernel
theorem dX0_weigh_132 : decode cX0_weigh 132 = .ok (.istore 7, 2) := by decide +kernel
theorem dX0_weigh_134 : decode cX0_weigh 134 = .ok (.iinc 8 1, 3) := by decide +kernel
theorem dX0_weigh_137 : decode cX0_weigh 137 = .ok (.goto (-118), 3) := by decide +kernel
theorem dX0_weigh_140 : decode cX0_weigh 140 = .ok (.iload 6, 2) := by decide +kernel
theorem dX0_weigh_142 : decode cX0_weigh 142 = .ok (.iconst 1, 1) := by decide +kernel
theorem dX0_weigh_143 : decode cX0_weigh 143 = .ok (.invokestatic 45, 3) := by decide +kernel
theorem dX0_weigh_146 : decode cX0_weigh 146 = .ok (.ifCond .eq 16, 3) := by decide +kernel
theorem dX0_weigh_149 : decode cX0_weigh 149 = .ok (.iload 7, 2) := by decide +kernel
theorem dX0_weigh_151 : decode cX0_weigh 151 = .ok (.iconst 1, 1) := by decide +kernel
theorem dX0_weigh_152 : decode cX0_weigh 152 = .ok (.invokestatic 45, 3) := by decide +kernel
theorem dX0_weigh_155 : decode cX0_weigh 155 = .ok (.ifCond .eq 7, 3) := by decide +kernel
theorem dX0_weigh_158 : decode cX0_weigh 158 = .ok (.iconst 1, 1) := by decide +kernel
theorem dX0_weigh_159 : decode cX0_weigh 159 = .ok (.goto 4, 3) := by decide +kernel
theorem dX0_weigh_162 : decode cX0_weigh 162 = .ok (.iconst 0, 1) := by decide +kernel
theorem dX0_weigh_163 : decode cX0_weigh 163 = .ok (.istore 8, 2) := by decide +kernel
theorem dX0_weigh_165 : decode cX0_weigh 165 = .ok (.iload_n 2, 1) := by decide +kernel
theorem dX0_weigh_166 : decode cX0_weigh 166 = .ok (.iconst 3, 1) := by decide +kernel
theorem dX0_weigh_167 : decode cX0_weigh 167 = .ok (.if_icmp .ne 47, 3) := by decide +kernel
theorem dX0_weigh_170 : decode cX0_weigh 170 = .ok (.iload 8, 2) := by decide +kernel
theorem dX0_weigh_172 : decode cX0_weigh 172 = .ok (.ifCond .eq 42, 3) := by decide +kernel
theorem dX0_weigh_175 : decode cX0_weigh 175 = .ok (.aload_n 0, 1) := by decide +kernel
theorem dX0_weigh_176 : decode cX0_weigh 176 = .ok (.getfield 71, 3) := by decide +kernel
theorem dX0_weigh_179 : decode cX0_weigh 179 = .ok (.iconst (-1), 1) := by decide +kernel
theorem dX0_weigh_180 : decode cX0_weigh 180 = .ok (.if_icmp .eq 14, 3) := by decide +kernel
theorem dX0_weigh_183 : decode cX0_weigh 183 = .ok (.iload_n 3, 1) := by decide +kernel
theorem dX0_weigh_184 : decode cX0_weigh 184 = .ok (.invokestatic 84, 3) := by decide +kernel
theorem dX0_weigh_187 : decode cX0_weigh 187 = .ok (.aload_n 0, 1) := by decide +kernel
theorem dX0_weigh_188 : decode cX0_weigh 188 = .ok (.getfield 71, 3) := by decide +kernel
theorem dX0_weigh_191 : decode cX0_weigh 191 = .ok (.if_icmp .ge 23, 3) := by decide +kernel
theorem dX0_weigh_194 : decode cX0_weigh 194 = .ok (.aload_n 0, 1) := by decide +kernel
theorem dX0_weigh_195 : decode cX0_weigh 195 = .ok (.iload_n 3, 1) := by decide +kernel
theorem dX0_weigh_196 : decode cX0_weigh 196 = .ok (.invokestatic 84, 3) := by decide +kernel
theorem dX0_weigh_199 : decode cX0_weigh 199 = .ok (.putfield 71, 3) := by decide +kernel
theorem dX0_weigh_202 : decode cX0_weigh 202 = .ok (.aload_n 0, 1) := by decide +kernel
theorem dX0_weigh_203 : decode cX0_weigh 203 = .ok (.iload 4, 2) := by decide +kernel
theorem dX0_weigh_205 : decode cX0_weigh 205 = .ok (.putfield 90, 3) := by decide +kernel
theorem dX0_weigh_208 : decode cX0_weigh 208 = .ok (.aload_n 0, 1) := by decide +kernel
theorem dX0_weigh_209 : decode cX0_weigh 209 = .ok (.iload 5, 2) := by decide +kernel
theorem dX0_weigh_211 : decode cX0_weigh 211 = .ok (.putfield 93, 3) := by decide +kernel
theorem dX0_weigh_214 : decode cX0_weigh 214 = .ok (.return_, 1) := by decide +kernel
set_option maxRecDepth 20000 in
theorem ggX0_newMatch_X1_init : GoodIn wsX0_newMatch wsX1_init := goodIn_r _ [11, 12, 13, 14, 15, 16, 17, 18, 19, 20, 21, 22, 23, 24, 25, 26, 27, 28, 29, 30, 31, 32, 33, 34, 35, 36, 37, 38, 39, 118, 119, 120, 121, 122, 123, 124, 130, 131, 132] (by decide +kernel) (by decide +kernel)
set_option maxRecDepth 20000 in
theorem gX0_newMatch_X1_init : GoodIn wsX0_newMatch (wsX1_init) := ggX0_newMatch_X1_init
set_option maxRecDepth 20000 in
theorem ggX0_newMatch_Jx4a65c_size_8abf5 : GoodIn wsX0_newMatch wsJx4a65c_size_8abf5 := goodIn_r _ [43, 44, 130, 131, 132] (by decide +kernel) (by decide +kernel)
set_option maxRecDepth 20000 in
theorem gX0_newMatch_Jx4a65c_size_8abf5 : GoodIn wsX0_newMatch (wsV RX0 28 RJx4a65c yJx4a65c_size_8abf5 wsJx4a65c_size_8abf5) := goodIn_app (goodIn_of _ (by decide +kernel)) ggX0_newMatch_Jx4a65c_size_8abf5
set_option maxRecDepth 20000 in
theorem ggX0_newMatch_Jx4a65c_get_915e3 : GoodIn wsX0_newMatch wsJx4a65c_get_915e3 := goodIn_r _ [48, 44, 49, 50, 51, 52, 53, 54, 55, 56, 57, 58, 59, 21, 60, 29, 130, 131, 132] (by decide +kernel) (by decide +kernel)
set_option maxRecDepth 20000 in
theorem gX0_newMatch_Jx4a65c_get_915e3 : GoodIn wsX0_newMatch (wsV RX0 32 RJx4a65c yJx4a65c_get_915e3 wsJx4a65c_get_915e3) := goodIn_app (goodIn_of _ (by decide +kernel)) ggX0_newMatch_Jx4a65c_get_915e3
set_option maxRecDepth 20000 in
theorem ggX0_newMatch_X1_join : GoodIn wsX0_newMatch wsX1_join := goodIn_r _ [64, 22, 65, 66, 67, 68, 21, 69, 70, 71, 29, 44, 72, 73, 74, 75, 76, 77, 78, 79, 80, 81, 82, 83, 28, 84, 85, 86, 87, 88, 89, 90, 91, 92, 93, 94, 95, 96, 97, 98, 99, 100, 101, 102, 103, 104, 105, 106, 107, 108, 109, 110, 111, 112, 113, 114, 115, 116, 117, 118, 119, 120, 121, 122, 123, 124, 133, 134, 135, 136, 137, 130, 131, 132] (by decide +kernel) (by decide +kernel)
set_option maxRecDepth 20000 in
theorem gX0_newMatch_X1_join : GoodIn wsX0_newMatch (wsV RX0 101 RX1 yX1_join wsX1_join) := goodIn_app (goodIn_of _ (by decide +kernel)) ggX0_newMatch_X1_join
theorem dX0_newMatch_0 : decode cX0_newMatch 0 = .ok (.new 96, 3) := by decide +kernel
theorem dX0_newMatch_3 : decode cX0_newMatch 3 = .ok (.dup, 1) := by decide +kernel
theorem dX0_newMatch_4 : decode cX0_newMatch 4 = .ok (.aload_n 0, 1) := by decide +kernel
theorem dX0_newMatch_5 : decode cX0_newMatch 5 = .ok (.getfield 90, 3) := by decide +kernel
theorem dX0_newMatch_8 : decode cX0_newMatch 8 = .ok (.aload_n 0, 1) := by decide +kernel
theorem dX0_newMatch_9 : decode cX0_newMatch 9 = .ok (.getfield 93, 3) := by decide +kernel
theorem dX0_newMatch_12 : decode cX0_newMatch 12 = .ok (.aload_n 0, 1) := by decide +kernel
theorem dX0_newMatch_13 : decode cX0_newMatch 13 = .ok (.getfield 71, 3) := by decide +kernel
theorem dX0_newMatch_16 : decode cX0_newMatch 16 = .ok (.iload_n 1, 1) := by decide +kernel
theorem dX0_newMatch_17 : decode cX0_newMatch 17 = .ok (.iconst 3, 1) := by decide +kernel
theorem dX0_newMatch_18 : decode cX0_newMatch 18 = .ok (.iadd, 1) := by decide +kernel
theorem dX0_newMatch_19 : decode cX0_newMatch 19 = .ok (.invokespecial 98, 3) := by decide +kernel
theorem dX0_newMatch_22 : decode cX0_newMatch 22 = .ok (.astore_n 2, 1) := by decide +kernel
theorem dX0_newMatch_23 : decode cX0_newMatch 23 = .ok (.iconst 0, 1) := by decide +kernel
theorem dX0_newMatch_24 : decode cX0_newMatch 24 = .ok (.istore_n 3, 1) := by decide +kernel
theorem dX0_newMatch_25 : decode cX0_newMatch 25 = .ok (.iload_n 3, 1) := by decide +kernel
theorem dX0_newMatch_26 : decode cX0_newMatch 26 = .ok (.aload_n 0, 1) := by decide +kernel
theorem dX0_newMatch_27 : decode cX0_newMatch 27 = .ok (.getfield 18, 3) := by decide +kernel
theorem dX0_newMatch_30 : decode cX0_newMatch 30 = .ok (.invokevirtual 28, 3) := by decide +kernel
theorem dX0_newMatch_33 : decode cX0_newMatch 33 = .ok (.if_icmp .ge 24, 3) := by decide +kernel
theorem dX0_newMatch_36 : decode cX0_newMatch 36 = .ok (.aload_n 2, 1) := by decide +kernel
theorem dX0_newMatch_37 : decode cX0_newMatch 37 = .ok (.aload_n 0, 1) := by decide +kernel
theorem dX0_newMatch_38 : decode cX0_newMatch 38 = .ok (.getfield 18, 3) := by decide +kernel
theorem dX0_newMatch_41 : decode cX0_newMatch 41 = .ok (.iload_n 3, 1) := by decide +kernel
theorem dX0_newMatch_42 : decode cX0_newMatch 42 = .ok (.invokevirtual 32, 3) := by decide +kernel
theorem dX0_newMatch_45 : decode cX0_newMatch 45 = .ok (.checkcast 36, 3) := by decide +kernel
theorem dX0_newMatch_48 : decode cX0_newMatch 48 = .ok (.invokevirtual 101, 3) := by decide +kernel
theorem dX0_newMatch_51 : decode cX0_newMatch 51 = .ok (.iinc 3 1, 3) := by decide +kernel
theorem dX0_newMatch_54 : decode cX0_newMatch 54 = .ok (.goto (-29), 3) := by decide +kernel
theorem dX0_newMatch_57 : decode cX0_newMatch 57 = .ok (.aload_n 2, 1) := by decide +kernel
theorem dX0_newMatch_58 : decode cX0_newMatch 58 = .ok (.areturn, 1) := by decide +kernel
set_option maxRecDepth 20000 in
theorem ggX1_init_Jx4a65c_init_da8c8 : GoodIn wsX1_init wsJx4a65c_init_da8c8 := goodIn_r _ [16, 17, 18, 19, 20, 21, 22, 23, 24, 25, 26, 27, 28, 2, 3, 36, 37, 38] (by decide +kernel) (by decide +kernel)
set_option maxRecDepth 20000 in
theorem gX1_init_Jx4a65c_init_da8c8 : GoodIn wsX1_init (wsJx4a65c_init_da8c8) := ggX1_init_Jx4a65c_init_da8c8
theorem dX1_init_0 : decode cX1_init 0 = .ok (.aload_n 0, 1) := by decide +kernel
theorem dX1_init_1 : decode cX1_init 1 = .ok (.invokespecial 3, 3) := by decide +kernel
theorem dX1_init_4 : decode cX1_init 4 = .ok (.aload_n 0, 1) := by decide +kernel
theorem dX1_init_5 : decode cX1_init 5 = .ok (.iload_n 1, 1) := by decide +kernel
theorem dX1_init_6 : decode cX1_init 6 = .ok (.putfield 9, 3) := by decide +kernel
theorem dX1_init_9 : decode cX1_init 9 = .ok (.aload_n 0, 1) := by decide +kernel
theorem dX1_init_10 : decode cX1_init 10 = .ok (.iload_n 2, 1) := by decide +kernel
theorem dX1_init_11 : decode cX1_init 11 = .ok (.putfield 15, 3) := by decide +kernel
theorem dX1_init_14 : decode cX1_init 14 = .ok (.aload_n 0, 1) := by decide +kernel
theorem dX1_init_15 : decode cX1_init 15 = .ok (.iload_n 3, 1) := by decide +kernel
theorem dX1_init_16 : decode cX1_init 16 = .ok (.putfield 18, 3) := by decide +kernel
theorem dX1_init_19 : decode cX1_init 19 = .ok (.aload_n 0, 1) := by decide +kernel
theorem dX1_init_20 : decode cX1_init 20 = .ok (.iload 4, 2) := by decide +kernel
theorem dX1_init_22 : decode cX1_init 22 = .ok (.putfield 21, 3) := by decide +kernel
theorem dX1_init_25 : decode cX1_init 25 = .ok (.aload_n 0, 1) := by decide +kernel
theorem dX1_init_26 : decode cX1_init 26 = .ok (.new 24, 3) := by decide +kernel
theorem dX1_init_29 : decode cX1_init 29 = .ok (.dup, 1) := by decide +kernel
theorem dX1_init_30 : decode cX1_init 30 = .ok (.invokespecial 26, 3) := by decide +kernel
theorem dX1_init_33 : decode cX1_init 33 = .ok (.putfield 27, 3) := by decide +kernel
theorem dX1_init_36 : decode cX1_init 36 = .ok (.aload_n 0, 1) := by decide +kernel
theorem dX1_init_37 : decode cX1_init 37 = .ok (.iconst 0, 1) := by decide +kernel
theorem dX1_init_38 : decode cX1_init 38 = .ok (.putfield 31, 3) := by decide +kernel
theorem dX1_init_41 : decode cX1_init 41 = .ok (.aload_n 0, 1) := by decide +kernel
theorem dX1_init_42 : decode cX1_init 42 = .ok (.iload_n 1, 1) := by decide +kernel
theorem dX1_init_43 : decode cX1_init 43 = .ok (.iload_n 2, 1) := by decide +kernel
theorem dX1_init_44 : decode cX1_init 44 = .ok (.ior, 1) := by decide +kernel
theorem dX1_init_45 : decode cX1_init 45 = .ok (.putfield 34, 3) := by decide +kernel
theorem dX1_init_48 : decode cX1_init 48 = .ok (.return_, 1) := by decide +kernel
set_option maxRecDepth 20000 in
theorem ggX1_join_Jx4a65c_add_9ea2d : GoodIn wsX1_join wsJx4a65c_add_9ea2d := goodIn_r _ [7, 8, 9, 10, 11, 12, 13, 14, 6, 15, 16, 17, 18, 19, 20, 21, 22, 23, 24, 25, 26, 27, 28, 29, 30, 31, 32, 33, 34, 35, 36, 37, 38, 39, 40, 41, 42, 43, 44, 45, 46, 47, 48, 49, 50, 51, 52, 53, 54, 55, 56, 57, 58, 71, 72, 73] (by decide +kernel) (by decide +kernel)
set_option maxRecDepth 20000 in
theorem gX1_join_Jx4a65c_add_9ea2d : GoodIn wsX1_join (wsV RX1 37 RJx4a65c yJx4a65c_add_9ea2d wsJx4a65c_add_9ea2d) := goodIn_app (goodIn_of _ (by decide +kernel)) ggX1_join_Jx4a65c_add_9ea2d
theorem dX1_join_0 : decode cX1_join 0 = .ok (.aload_n 0, 1) := by decide +kernel
theorem dX1_join_1 : decode cX1_join 1 = .ok (.getfield 27, 3) := by decide +kernel
theorem dX1_join_4 : decode cX1_join 4 = .ok (.aload_n 1, 1) := by decide +kernel
theorem dX1_join_5 : decode cX1_join 5 = .ok (.invokevirtual 37, 3) := by decide +kernel
theorem dX1_join_8 : decode cX1_join 8 = .ok (.pop, 1) := by decide +kernel
theorem dX1_join_9 : decode cX1_join 9 = .ok (.aload_n 1, 1) := by decide +kernel
theorem dX1_join_10 : decode cX1_join 10 = .ok (.iconst 2, 1) := by decide +kernel
theorem dX1_join_11 : decode cX1_join 11 = .ok (.putfield 41, 3) := by decide +kernel
theorem dX1_join_14 : decode cX1_join 14 = .ok (.return_, 1) := by decide +kernel
set_option maxRecDepth 20000 in
theorem ggX1_awaits_X5_has : GoodIn wsX1_awaits wsX5_has := goodIn_r _ [5] (by decide +kernel) (by decide +kernel)
set_option maxRecDepth 20000 in
theorem gX1_awaits_X5_has_n46 : GoodIn wsX1_awaits (wsX5_has) := ggX1_awaits_X5_has
theorem dX1_awaits_0 : decode cX1_awaits 0 = .ok (.aload_n 0, 1) := by decide +kernel
theorem dX1_awaits_1 : decode cX1_awaits 1 = .ok (.getfield 31, 3) := by decide +kernel
theorem dX1_awaits_4 : decode cX1_awaits 4 = .ok (.ifCond .ne 18, 3) := by decide +kernel
theorem dX1_awaits_7 : decode cX1_awaits 7 = .ok (.aload_n 0, 1) := by decide +kernel
theorem dX1_awaits_8 : decode cX1_awaits 8 = .ok (.getfield 34, 3) := by decide +kernel
theorem dX1_awaits_11 : decode cX1_awaits 11 = .ok (.iload_n 1, 1) := by decide +kernel
theorem dX1_awaits_12 : decode cX1_awaits 12 = .ok (.invokestatic 46, 3) := by decide +kernel
theorem dX1_awaits_15 : decode cX1_awaits 15 = .ok (.ifCond .eq 7, 3) := by decide +kernel
theorem dX1_awaits_18 : decode cX1_awaits 18 = .ok (.iconst 1, 1) := by decide +kernel
theorem dX1_awaits_19 : decode cX1_awaits 19 = .ok (.goto 4, 3) := by decide +kernel
theorem dX1_awaits_22 : decode cX1_awaits 22 = .ok (.iconst 0, 1) := by decide +kernel
theorem dX1_awaits_23 : decode cX1_awaits 23 = .ok (.ireturn, 1) := by decide +kernel
theorem dX1_takeAnswer_0 : decode cX1_takeAnswer 0 = .ok (.aload_n 0, 1) := by decide +kernel
theorem dX1_takeAnswer_1 : decode cX1_takeAnswer 1 = .ok (.dup, 1) := by decide +kernel
theorem dX1_takeAnswer_2 : decode cX1_takeAnswer 2 = .ok (.getfield 34, 3) := by decide +kernel
theorem dX1_takeAnswer_5 : decode cX1_takeAnswer 5 = .ok (.iconst 1, 1) := by decide +kernel
theorem dX1_takeAnswer_6 : decode cX1_takeAnswer 6 = .ok (.iload_n 1, 1) := by decide +kernel
theorem dX1_takeAnswer_7 : decode cX1_takeAnswer 7 = .ok (.ishl, 1) := by decide +kernel
theorem dX1_takeAnswer_8 : decode cX1_takeAnswer 8 = .ok (.iconst (-1), 1) := by decide +kernel
theorem dX1_takeAnswer_9 : decode cX1_takeAnswer 9 = .ok (.ixor, 1) := by decide +kernel
theorem dX1_takeAnswer_10 : decode cX1_takeAnswer 10 = .ok (.iand, 1) := by decide +kernel
theorem dX1_takeAnswer_11 : decode cX1_takeAnswer 11 = .ok (.putfield 34, 3) := by decide +kernel
theorem dX1_takeAnswer_14 : decode cX1_takeAnswer 14 = .ok (.aload_n 0, 1) := by decide +kernel
theorem dX1_takeAnswer_15 : decode cX1_takeAnswer 15 = .ok (.getfield 34, 3) := by decide +kernel
theorem dX1_takeAnswer_18 : decode cX1_takeAnswer 18 = .ok (.ifCond .ne 8, 3) := by decide +kernel
theorem dX1_takeAnswer_21 : decode cX1_takeAnswer 21 = .ok (.aload_n 0, 1) := by decide +kernel
theorem dX1_takeAnswer_22 : decode cX1_takeAnswer 22 = .ok (.iconst 1, 1) := by decide +kernel
theorem dX1_takeAnswer_23 : decode cX1_takeAnswer 23 = .ok (.putfield 31, 3) := by decide +kernel
theorem dX1_takeAnswer_26 : decode cX1_takeAnswer 26 = .ok (.return_, 1) := by decide +kernel
set_option maxRecDepth 20000 in
theorem ggX1_callOff_X1_sendParties : GoodIn wsX1_callOff wsX1_sendParties := goodIn_r _ [6, 7, 8, 9, 10, 11, 12, 13, 14, 15, 16, 17, 18, 19, 20, 21, 22, 23, 24, 25, 26, 27, 28, 29, 30, 31, 32, 33, 34, 35, 36, 37, 38, 39, 40, 41, 42, 43, 44, 45, 46, 47] (by decide +kernel) (by decide +kernel)
set_option maxRecDepth 20000 in
theorem gX1_callOff_X1_sendParties : GoodIn wsX1_callOff (wsV RX1 50 RX1 yX1_sendParties wsX1_sendParties) := goodIn_app (goodIn_of _ (by decide +kernel)) ggX1_callOff_X1_sendParties
theorem dX1_callOff_0 : decode cX1_callOff 0 = .ok (.aload_n 0, 1) := by decide +kernel
theorem dX1_callOff_1 : decode cX1_callOff 1 = .ok (.iconst 2, 1) := by decide +kernel
theorem dX1_callOff_2 : decode cX1_callOff 2 = .ok (.putfield 31, 3) := by decide +kernel
theorem dX1_callOff_5 : decode cX1_callOff 5 = .ok (.aload_n 0, 1) := by decide +kernel
theorem dX1_callOff_6 : decode cX1_callOff 6 = .ok (.iconst 1, 1) := by decide +kernel
theorem dX1_callOff_7 : decode cX1_callOff 7 = .ok (.invokevirtual 50, 3) := by decide +kernel
theorem dX1_callOff_10 : decode cX1_callOff 10 = .ok (.return_, 1) := by decide +kernel
set_option maxRecDepth 20000 in
theorem ggX1_end_X1_sendParties : GoodIn wsX1_end wsX1_sendParties := goodIn_r _ [6, 7, 8, 9, 10, 11, 12, 13, 14, 15, 16, 17, 18, 19, 20, 21, 22, 23, 24, 25, 26, 27, 28, 29, 30, 31, 32, 33, 34, 35, 36, 37, 38, 39, 40, 41, 42, 43, 44, 45, 46, 47] (by decide +kernel) (by decide +kernel)
set_option maxRecDepth 20000 in
theorem gX1_end_X1_sendParties : GoodIn wsX1_end (wsV RX1 50 RX1 yX1_sendParties wsX1_sendParties) := goodIn_app (goodIn_of _ (by decide +kernel)) ggX1_end_X1_sendParties
theorem dX1_end_0 : decode cX1_end 0 = .ok (.aload_n 0, 1) := by decide +kernel
theorem dX1_end_1 : decode cX1_end 1 = .ok (.iconst 3, 1) := by decide +kernel
theorem dX1_end_2 : decode cX1_end 2 = .ok (.putfield 31, 3) := by decide +kernel
theorem dX1_end_5 : decode cX1_end 5 = .ok (.aload_n 0, 1) := by decide +kernel
theorem dX1_end_6 : decode cX1_end 6 = .ok (.iconst 0, 1) := by decide +kernel
theorem dX1_end_7 : decode cX1_end 7 = .ok (.invokevirtual 50, 3) := by decide +kernel
theorem dX1_end_10 : decode cX1_end 10 = .ok (.return_, 1) := by decide +kernel
set_option maxRecDepth 20000 in
theorem ggX1_sendParties_Jx4a65c_size_8abf5 : GoodIn wsX1_sendParties wsJx4a65c_size_8abf5 := goodIn_r _ [8, 9, 39, 40, 41] (by decide +kernel) (by decide +kernel)
set_option maxRecDepth 20000 in
theorem gX1_sendParties_Jx4a65c_size_8abf5 : GoodIn wsX1_sendParties (wsV RX1 54 RJx4a65c yJx4a65c_size_8abf5 wsJx4a65c_size_8abf5) := goodIn_app (goodIn_of _ (by decide +kernel)) ggX1_sendParties_Jx4a65c_size_8abf5
set_option maxRecDepth 20000 in
theorem ggX1_sendParties_Jx4a65c_get_915e3 : GoodIn wsX1_sendParties wsJx4a65c_get_915e3 := goodIn_r _ [13, 9, 14, 15, 16, 17, 18, 19, 20, 21, 22, 23, 24, 7, 25, 26, 39, 40, 41] (by decide +kernel) (by decide +kernel)
set_option maxRecDepth 20000 in
theorem gX1_sendParties_Jx4a65c_get_915e3 : GoodIn wsX1_sendParties (wsV RX1 58 RJx4a65c yJx4a65c_get_915e3 wsJx4a65c_get_915e3) := goodIn_app (goodIn_of _ (by decide +kernel)) ggX1_sendParties_Jx4a65c_get_915e3
theorem dX1_sendParties_0 : decode cX1_sendParties 0 = .ok (.iconst 0, 1) := by decide +kernel
theorem dX1_sendParties_1 : decode cX1_sendParties 1 = .ok (.istore_n 2, 1) := by decide +kernel
theorem dX1_sendParties_2 : decode cX1_sendParties 2 = .ok (.iload_n 2, 1) := by decide +kernel
theorem dX1_sendParties_3 : decode cX1_sendParties 3 = .ok (.aload_n 0, 1) := by decide +kernel
theorem dX1_sendParties_4 : decode cX1_sendParties 4 = .ok (.getfield 27, 3) := by decide +kernel
theorem dX1_sendParties_7 : decode cX1_sendParties 7 = .ok (.invokevirtual 54, 3) := by decide +kernel
theorem dX1_sendParties_10 : decode cX1_sendParties 10 = .ok (.if_icmp .ge 24, 3) := by decide +kernel
theorem dX1_sendParties_13 : decode cX1_sendParties 13 = .ok (.aload_n 0, 1) := by decide +kernel
theorem dX1_sendParties_14 : decode cX1_sendParties 14 = .ok (.getfield 27, 3) := by decide +kernel
theorem dX1_sendParties_17 : decode cX1_sendParties 17 = .ok (.iload_n 2, 1) := by decide +kernel
theorem dX1_sendParties_18 : decode cX1_sendParties 18 = .ok (.invokevirtual 58, 3) := by decide +kernel
theorem dX1_sendParties_21 : decode cX1_sendParties 21 = .ok (.checkcast 42, 3) := by decide +kernel
theorem dX1_sendParties_24 : decode cX1_sendParties 24 = .ok (.iload_n 1, 1) := by decide +kernel
theorem dX1_sendParties_25 : decode cX1_sendParties 25 = .ok (.putfield 41, 3) := by decide +kernel
theorem dX1_sendParties_28 : decode cX1_sendParties 28 = .ok (.iinc 2 1, 3) := by decide +kernel
theorem dX1_sendParties_31 : decode cX1_sendParties 31 = .ok (.goto (-29), 3) := by decide +kernel
theorem dX1_sendParties_34 : decode cX1_sendParties 34 = .ok (.return_, 1) := by decide +kernel
set_option maxRecDepth 20000 in
theorem ggX2_init_Jx4a65c_init_da8c8 : GoodIn wsX2_init wsJx4a65c_init_da8c8 := goodIn_r _ [13, 14, 15, 16, 17, 18, 19, 20, 21, 22, 23, 24, 25, 2, 3, 31, 32, 33] (by decide +kernel) (by decide +kernel)
set_option maxRecDepth 20000 in
theorem gX2_init_Jx4a65c_init_da8c8 : GoodIn wsX2_init (wsJx4a65c_init_da8c8) := ggX2_init_Jx4a65c_init_da8c8
theorem dX2_init_0 : decode cX2_init 0 = .ok (.aload_n 0, 1) := by decide +kernel
theorem dX2_init_1 : decode cX2_init 1 = .ok (.invokespecial 3, 3) := by decide +kernel
theorem dX2_init_4 : decode cX2_init 4 = .ok (.aload_n 0, 1) := by decide +kernel
theorem dX2_init_5 : decode cX2_init 5 = .ok (.iload_n 1, 1) := by decide +kernel
theorem dX2_init_6 : decode cX2_init 6 = .ok (.putfield 9, 3) := by decide +kernel
theorem dX2_init_9 : decode cX2_init 9 = .ok (.aload_n 0, 1) := by decide +kernel
theorem dX2_init_10 : decode cX2_init 10 = .ok (.iload_n 2, 1) := by decide +kernel
theorem dX2_init_11 : decode cX2_init 11 = .ok (.putfield 15, 3) := by decide +kernel
theorem dX2_init_14 : decode cX2_init 14 = .ok (.aload_n 0, 1) := by decide +kernel
theorem dX2_init_15 : decode cX2_init 15 = .ok (.new 18, 3) := by decide +kernel
theorem dX2_init_18 : decode cX2_init 18 = .ok (.dup, 1) := by decide +kernel
theorem dX2_init_19 : decode cX2_init 19 = .ok (.invokespecial 20, 3) := by decide +kernel
theorem dX2_init_22 : decode cX2_init 22 = .ok (.putfield 21, 3) := by decide +kernel
theorem dX2_init_25 : decode cX2_init 25 = .ok (.aload_n 0, 1) := by decide +kernel
theorem dX2_init_26 : decode cX2_init 26 = .ok (.iconst 1, 1) := by decide +kernel
theorem dX2_init_27 : decode cX2_init 27 = .ok (.putfield 25, 3) := by decide +kernel
theorem dX2_init_30 : decode cX2_init 30 = .ok (.return_, 1) := by decide +kernel
set_option maxRecDepth 20000 in
theorem ggX2_join_Jx4a65c_add_9ea2d : GoodIn wsX2_join wsJx4a65c_add_9ea2d := goodIn_r _ [9, 10, 11, 12, 13, 14, 15, 16, 8, 17, 18, 19, 20, 21, 22, 23, 24, 25, 26, 27, 28, 29, 30, 31, 32, 33, 34, 35, 36, 37, 38, 39, 40, 41, 42, 43, 44, 45, 46, 47, 48, 49, 50, 51, 52, 53, 54, 55, 56, 57, 58, 59, 60, 76, 77, 78] (by decide +kernel) (by decide +kernel)
set_option maxRecDepth 20000 in
theorem gX2_join_Jx4a65c_add_9ea2d : GoodIn wsX2_join (wsV RX2 28 RJx4a65c yJx4a65c_add_9ea2d wsJx4a65c_add_9ea2d) := goodIn_app (goodIn_of _ (by decide +kernel)) ggX2_join_Jx4a65c_add_9ea2d
set_option maxRecDepth 20000 in
theorem ggX2_join_X4_of : GoodIn wsX2_join wsX4_of := goodIn_r _ [64] (by decide +kernel) (by decide +kernel)
set_option maxRecDepth 20000 in
theorem gX2_join_X4_of : GoodIn wsX2_join (va_wsS RX2 40 yX4_of wsX4_of) := goodIn_app (goodIn_of _ (by decide +kernel)) ggX2_join_X4_of
theorem dX2_join_0 : decode cX2_join 0 = .ok (.aload_n 0, 1) := by decide +kernel
theorem dX2_join_1 : decode cX2_join 1 = .ok (.getfield 21, 3) := by decide +kernel
theorem dX2_join_4 : decode cX2_join 4 = .ok (.aload_n 1, 1) := by decide +kernel
theorem dX2_join_5 : decode cX2_join 5 = .ok (.invokevirtual 28, 3) := by decide +kernel
theorem dX2_join_8 : decode cX2_join 8 = .ok (.pop, 1) := by decide +kernel
theorem dX2_join_9 : decode cX2_join 9 = .ok (.aload_n 0, 1) := by decide +kernel
theorem dX2_join_10 : decode cX2_join 10 = .ok (.dup, 1) := by decide +kernel
theorem dX2_join_11 : decode cX2_join 11 = .ok (.getfield 32, 3) := by decide +kernel
theorem dX2_join_14 : decode cX2_join 14 = .ok (.aload_n 1, 1) := by decide +kernel
theorem dX2_join_15 : decode cX2_join 15 = .ok (.getfield 35, 3) := by decide +kernel
theorem dX2_join_18 : decode cX2_join 18 = .ok (.invokestatic 40, 3) := by decide +kernel
theorem dX2_join_21 : decode cX2_join 21 = .ok (.iadd, 1) := by decide +kernel
theorem dX2_join_22 : decode cX2_join 22 = .ok (.putfield 32, 3) := by decide +kernel
theorem dX2_join_25 : decode cX2_join 25 = .ok (.aload_n 1, 1) := by decide +kernel
theorem dX2_join_26 : decode cX2_join 26 = .ok (.aload_n 0, 1) := by decide +kernel
theorem dX2_join_27 : decode cX2_join 27 = .ok (.putfield 46, 3) := by decide +kernel
theorem dX2_join_30 : decode cX2_join 30 = .ok (.return_, 1) := by decide +kernel
theorem dX2_windowAt_0 : decode cX2_windowAt 0 = .ok (.bipush 100, 2) := by decide +kernel
theorem dX2_windowAt_2 : decode cX2_windowAt 2 = .ok (.bipush 20, 2) := by decide +kernel
theorem dX2_windowAt_4 : decode cX2_windowAt 4 = .ok (.iload_n 1, 1) := by decide +kernel
theorem dX2_windowAt_5 : decode cX2_windowAt 5 = .ok (.aload_n 0, 1) := by decide +kernel
theorem dX2_windowAt_6 : decode cX2_windowAt 6 = .ok (.getfield 15, 3) := by decide +kernel
theorem dX2_windowAt_9 : decode cX2_windowAt 9 = .ok (.isub, 1) := by decide +kernel
theorem dX2_windowAt_10 : decode cX2_windowAt 10 = .ok (.imul, 1) := by decide +kernel
theorem dX2_windowAt_11 : decode cX2_windowAt 11 = .ok (.iadd, 1) := by decide +kernel
theorem dX2_windowAt_12 : decode cX2_windowAt 12 = .ok (.ireturn, 1) := by decide +kernel
set_option maxRecDepth 20000 in
theorem ggX2_fitsAt_X2_meanPoints : GoodIn wsX2_fitsAt wsX2_meanPoints := goodIn_r _ [9, 10, 11, 12, 13, 14, 15, 16, 17, 18, 19, 8, 20, 21, 22, 23, 24, 25, 26, 27, 28, 29, 30, 31, 32, 33, 34, 35, 36, 37, 38, 39, 45, 46, 47, 48, 49, 50, 51, 52, 53, 54, 55, 56, 57, 58] (by decide +kernel) (by decide +kernel)
set_option maxRecDepth 20000 in
theorem gX2_fitsAt_X2_meanPoints : GoodIn wsX2_fitsAt (wsV RX2 50 RX2 yX2_meanPoints wsX2_meanPoints) := goodIn_app (goodIn_of _ (by decide +kernel)) ggX2_fitsAt_X2_meanPoints
set_option maxRecDepth 20000 in
theorem ggX2_fitsAt_X2_windowAt : GoodIn wsX2_fitsAt wsX2_windowAt := goodIn_r _ [43, 44, 45, 46, 47, 48, 49] (by decide +kernel) (by decide +kernel)
set_option maxRecDepth 20000 in
theorem gX2_fitsAt_X2_windowAt : GoodIn wsX2_fitsAt (wsV RX2 59 RX2 yX2_windowAt wsX2_windowAt) := goodIn_app (goodIn_of _ (by decide +kernel)) ggX2_fitsAt_X2_windowAt
theorem dX2_fitsAt_0 : decode cX2_fitsAt 0 = .ok (.aload_n 0, 1) := by decide +kernel
theorem dX2_fitsAt_1 : decode cX2_fitsAt 1 = .ok (.invokevirtual 50, 3) := by decide +kernel
theorem dX2_fitsAt_4 : decode cX2_fitsAt 4 = .ok (.aload_n 2, 1) := by decide +kernel
theorem dX2_fitsAt_5 : decode cX2_fitsAt 5 = .ok (.invokevirtual 50, 3) := by decide +kernel
theorem dX2_fitsAt_8 : decode cX2_fitsAt 8 = .ok (.isub, 1) := by decide +kernel
theorem dX2_fitsAt_9 : decode cX2_fitsAt 9 = .ok (.invokestatic 54, 3) := by decide +kernel
theorem dX2_fitsAt_12 : decode cX2_fitsAt 12 = .ok (.istore_n 3, 1) := by decide +kernel
theorem dX2_fitsAt_13 : decode cX2_fitsAt 13 = .ok (.iload_n 3, 1) := by decide +kernel
theorem dX2_fitsAt_14 : decode cX2_fitsAt 14 = .ok (.aload_n 0, 1) := by decide +kernel
theorem dX2_fitsAt_15 : decode cX2_fitsAt 15 = .ok (.iload_n 1, 1) := by decide +kernel
theorem dX2_fitsAt_16 : decode cX2_fitsAt 16 = .ok (.invokevirtual 59, 3) := by decide +kernel
theorem dX2_fitsAt_19 : decode cX2_fitsAt 19 = .ok (.if_icmp .gt 16, 3) := by decide +kernel
theorem dX2_fitsAt_22 : decode cX2_fitsAt 22 = .ok (.iload_n 3, 1) := by decide +kernel
theorem dX2_fitsAt_23 : decode cX2_fitsAt 23 = .ok (.aload_n 2, 1) := by decide +kernel
theorem dX2_fitsAt_24 : decode cX2_fitsAt 24 = .ok (.iload_n 1, 1) := by decide +kernel
theorem dX2_fitsAt_25 : decode cX2_fitsAt 25 = .ok (.invokevirtual 59, 3) := by decide +kernel
theorem dX2_fitsAt_28 : decode cX2_fitsAt 28 = .ok (.if_icmp .gt 7, 3) := by decide +kernel
theorem dX2_fitsAt_31 : decode cX2_fitsAt 31 = .ok (.iconst 1, 1) := by decide +kernel
theorem dX2_fitsAt_32 : decode cX2_fitsAt 32 = .ok (.goto 4, 3) := by decide +kernel
theorem dX2_fitsAt_35 : decode cX2_fitsAt 35 = .ok (.iconst 0, 1) := by decide +kernel
theorem dX2_fitsAt_36 : decode cX2_fitsAt 36 = .ok (.ireturn, 1) := by decide +kernel
set_option maxRecDepth 20000 in
theorem ggX2_points_Jx4a65c_size_8abf5 : GoodIn wsX2_points wsJx4a65c_size_8abf5 := goodIn_r _ [8, 9, 38, 39, 40] (by decide +kernel) (by decide +kernel)
set_option maxRecDepth 20000 in
theorem gX2_points_Jx4a65c_size_8abf5 : GoodIn wsX2_points (wsV RX2 62 RJx4a65c yJx4a65c_size_8abf5 wsJx4a65c_size_8abf5) := goodIn_app (goodIn_of _ (by decide +kernel)) ggX2_points_Jx4a65c_size_8abf5
set_option maxRecDepth 20000 in
theorem ggX2_points_Jx4a65c_get_915e3 : GoodIn wsX2_points wsJx4a65c_get_915e3 := goodIn_r _ [13, 9, 14, 15, 16, 17, 18, 19, 20, 21, 22, 23, 24, 7, 25, 26, 38, 39, 40] (by decide +kernel) (by decide +kernel)
set_option maxRecDepth 20000 in
theorem gX2_points_Jx4a65c_get_915e3 : GoodIn wsX2_points (wsV RX2 65 RJx4a65c yJx4a65c_get_915e3 wsJx4a65c_get_915e3) := goodIn_app (goodIn_of _ (by decide +kernel)) ggX2_points_Jx4a65c_get_915e3
theorem dX2_points_0 : decode cX2_points 0 = .ok (.iconst 0, 1) := by decide +kernel
theorem dX2_points_1 : decode cX2_points 1 = .ok (.istore_n 1, 1) := by decide +kernel
theorem dX2_points_2 : decode cX2_points 2 = .ok (.iconst 0, 1) := by decide +kernel
theorem dX2_points_3 : decode cX2_points 3 = .ok (.istore_n 2, 1) := by decide +kernel
theorem dX2_points_4 : decode cX2_points 4 = .ok (.iload_n 2, 1) := by decide +kernel
theorem dX2_points_5 : decode cX2_points 5 = .ok (.aload_n 0, 1) := by decide +kernel
theorem dX2_points_6 : decode cX2_points 6 = .ok (.getfield 21, 3) := by decide +kernel
theorem dX2_points_9 : decode cX2_points 9 = .ok (.invokevirtual 62, 3) := by decide +kernel
theorem dX2_points_12 : decode cX2_points 12 = .ok (.if_icmp .ge 26, 3) := by decide +kernel
theorem dX2_points_15 : decode cX2_points 15 = .ok (.iload_n 1, 1) := by decide +kernel
theorem dX2_points_16 : decode cX2_points 16 = .ok (.aload_n 0, 1) := by decide +kernel
theorem dX2_points_17 : decode cX2_points 17 = .ok (.getfield 21, 3) := by decide +kernel
theorem dX2_points_20 : decode cX2_points 20 = .ok (.iload_n 2, 1) := by decide +kernel
theorem dX2_points_21 : decode cX2_points 21 = .ok (.invokevirtual 65, 3) := by decide +kernel
theorem dX2_points_24 : decode cX2_points 24 = .ok (.checkcast 36, 3) := by decide +kernel
theorem dX2_points_27 : decode cX2_points 27 = .ok (.getfield 69, 3) := by decide +kernel
theorem dX2_points_30 : decode cX2_points 30 = .ok (.iadd, 1) := by decide +kernel
theorem dX2_points_31 : decode cX2_points 31 = .ok (.istore_n 1, 1) := by decide +kernel
theorem dX2_points_32 : decode cX2_points 32 = .ok (.iinc 2 1, 3) := by decide +kernel
theorem dX2_points_35 : decode cX2_points 35 = .ok (.goto (-31), 3) := by decide +kernel
theorem dX2_points_38 : decode cX2_points 38 = .ok (.iload_n 1, 1) := by decide +kernel
theorem dX2_points_39 : decode cX2_points 39 = .ok (.ireturn, 1) := by decide +kernel
set_option maxRecDepth 20000 in
theorem ggX2_meanPoints_Jx4a65c_size_8abf5 : GoodIn wsX2_meanPoints wsJx4a65c_size_8abf5 := goodIn_r _ [6, 7, 37, 38, 39] (by decide +kernel) (by decide +kernel)
set_option maxRecDepth 20000 in
theorem gX2_meanPoints_Jx4a65c_size_8abf5 : GoodIn wsX2_meanPoints (wsV RX2 62 RJx4a65c yJx4a65c_size_8abf5 wsJx4a65c_size_8abf5) := goodIn_app (goodIn_of _ (by decide +kernel)) ggX2_meanPoints_Jx4a65c_size_8abf5
set_option maxRecDepth 20000 in
theorem ggX2_meanPoints_X2_points : GoodIn wsX2_meanPoints wsX2_points := goodIn_r _ [12, 1, 13, 14, 2, 3, 4, 5, 6, 7, 15, 16, 17, 18, 19, 20, 21, 22, 23, 24, 25, 26, 27, 28, 29, 30, 31, 32, 33, 34, 35, 36, 40, 41, 42, 43, 44, 45, 37, 38, 39] (by decide +kernel) (by decide +kernel)
set_option maxRecDepth 20000 in
theorem gX2_meanPoints_X2_points : GoodIn wsX2_meanPoints (wsV RX2 72 RX2 yX2_points wsX2_points) := goodIn_app (goodIn_of _ (by decide +kernel)) ggX2_meanPoints_X2_points
theorem dX2_meanPoints_0 : decode cX2_meanPoints 0 = .ok (.aload_n 0, 1) := by decide +kernel
theorem dX2_meanPoints_1 : decode cX2_meanPoints 1 = .ok (.getfield 21, 3) := by decide +kernel
theorem dX2_meanPoints_4 : decode cX2_meanPoints 4 = .ok (.invokevirtual 62, 3) := by decide +kernel
theorem dX2_meanPoints_7 : decode cX2_meanPoints 7 = .ok (.istore_n 1, 1) := by decide +kernel
theorem dX2_meanPoints_8 : decode cX2_meanPoints 8 = .ok (.iload_n 1, 1) := by decide +kernel
theorem dX2_meanPoints_9 : decode cX2_meanPoints 9 = .ok (.ifCond .ne 7, 3) := by decide +kernel
theorem dX2_meanPoints_12 : decode cX2_meanPoints 12 = .ok (.iconst 0, 1) := by decide +kernel
theorem dX2_meanPoints_13 : decode cX2_meanPoints 13 = .ok (.goto 9, 3) := by decide +kernel
theorem dX2_meanPoints_16 : decode cX2_meanPoints 16 = .ok (.aload_n 0, 1) := by decide +kernel
theorem dX2_meanPoints_17 : decode cX2_meanPoints 17 = .ok (.invokevirtual 72, 3) := by decide +kernel
theorem dX2_meanPoints_20 : decode cX2_meanPoints 20 = .ok (.iload_n 1, 1) := by decide +kernel
theorem dX2_meanPoints_21 : decode cX2_meanPoints 21 = .ok (.idiv, 1) := by decide +kernel
theorem dX2_meanPoints_22 : decode cX2_meanPoints 22 = .ok (.ireturn, 1) := by decide +kernel
theorem dX3_init_0 : decode cX3_init 0 = .ok (.aload_n 0, 1) := by decide +kernel
theorem dX3_init_1 : decode cX3_init 1 = .ok (.invokespecial 3, 3) := by decide +kernel
theorem dX3_init_4 : decode cX3_init 4 = .ok (.aload_n 0, 1) := by decide +kernel
theorem dX3_init_5 : decode cX3_init 5 = .ok (.iload_n 1, 1) := by decide +kernel
theorem dX3_init_6 : decode cX3_init 6 = .ok (.putfield 9, 3) := by decide +kernel
theorem dX3_init_9 : decode cX3_init 9 = .ok (.aload_n 0, 1) := by decide +kernel
theorem dX3_init_10 : decode cX3_init 10 = .ok (.iload_n 2, 1) := by decide +kernel
theorem dX3_init_11 : decode cX3_init 11 = .ok (.putfield 15, 3) := by decide +kernel
theorem dX3_init_14 : decode cX3_init 14 = .ok (.aload_n 0, 1) := by decide +kernel
theorem dX3_init_15 : decode cX3_init 15 = .ok (.sipush 350, 3) := by decide +kernel
theorem dX3_init_18 : decode cX3_init 18 = .ok (.putfield 18, 3) := by decide +kernel
theorem dX3_init_21 : decode cX3_init 21 = .ok (.return_, 1) := by decide +kernel
theorem dX3_standing_0 : decode cX3_standing 0 = .ok (.aload_n 0, 1) := by decide +kernel
theorem dX3_standing_1 : decode cX3_standing 1 = .ok (.getfield 21, 3) := by decide +kernel
theorem dX3_standing_4 : decode cX3_standing 4 = .ok (.ifnonnull 7, 3) := by decide +kernel
theorem dX3_standing_7 : decode cX3_standing 7 = .ok (.iconst 0, 1) := by decide +kernel
theorem dX3_standing_8 : decode cX3_standing 8 = .ok (.goto 10, 3) := by decide +kernel
theorem dX3_standing_11 : decode cX3_standing 11 = .ok (.aload_n 0, 1) := by decide +kernel
theorem dX3_standing_12 : decode cX3_standing 12 = .ok (.getfield 21, 3) := by decide +kernel
theorem dX3_standing_15 : decode cX3_standing 15 = .ok (.getfield 25, 3) := by decide +kernel
theorem dX3_standing_18 : decode cX3_standing 18 = .ok (.ireturn, 1) := by decide +kernel
theorem dX3_penaliseAt_0 : decode cX3_penaliseAt 0 = .ok (.aload_n 0, 1) := by decide +kernel
theorem dX3_penaliseAt_1 : decode cX3_penaliseAt 1 = .ok (.getfield 21, 3) := by decide +kernel
theorem dX3_penaliseAt_4 : decode cX3_penaliseAt 4 = .ok (.ifnull 11, 3) := by decide +kernel
theorem dX3_penaliseAt_7 : decode cX3_penaliseAt 7 = .ok (.aload_n 0, 1) := by decide +kernel
theorem dX3_penaliseAt_8 : decode cX3_penaliseAt 8 = .ok (.getfield 21, 3) := by decide +kernel
theorem dX3_penaliseAt_11 : decode cX3_penaliseAt 11 = .ok (.iconst 0, 1) := by decide +kernel
theorem dX3_penaliseAt_12 : decode cX3_penaliseAt 12 = .ok (.putfield 25, 3) := by decide +kernel
theorem dX3_penaliseAt_15 : decode cX3_penaliseAt 15 = .ok (.aload_n 0, 1) := by decide +kernel
theorem dX3_penaliseAt_16 : decode cX3_penaliseAt 16 = .ok (.iconst 5, 1) := by decide +kernel
theorem dX3_penaliseAt_17 : decode cX3_penaliseAt 17 = .ok (.aload_n 0, 1) := by decide +kernel
theorem dX3_penaliseAt_18 : decode cX3_penaliseAt 18 = .ok (.getfield 30, 3) := by decide +kernel
theorem dX3_penaliseAt_21 : decode cX3_penaliseAt 21 = .ok (.iconst 1, 1) := by decide +kernel
theorem dX3_penaliseAt_22 : decode cX3_penaliseAt 22 = .ok (.iadd, 1) := by decide +kernel
theorem dX3_penaliseAt_23 : decode cX3_penaliseAt 23 = .ok (.invokestatic 33, 3) := by decide +kernel
theorem dX3_penaliseAt_26 : decode cX3_penaliseAt 26 = .ok (.putfield 30, 3) := by decide +kernel
theorem dX3_penaliseAt_29 : decode cX3_penaliseAt 29 = .ok (.iconst 5, 1) := by decide +kernel
theorem dX3_penaliseAt_30 : decode cX3_penaliseAt 30 = .ok (.aload_n 0, 1) := by decide +kernel
theorem dX3_penaliseAt_31 : decode cX3_penaliseAt 31 = .ok (.getfield 30, 3) := by decide +kernel
theorem dX3_penaliseAt_34 : decode cX3_penaliseAt 34 = .ok (.iconst 1, 1) := by decide +kernel
theorem dX3_penaliseAt_35 : decode cX3_penaliseAt 35 = .ok (.isub, 1) := by decide +kernel
theorem dX3_penaliseAt_36 : decode cX3_penaliseAt 36 = .ok (.ishl, 1) := by decide +kernel
theorem dX3_penaliseAt_37 : decode cX3_penaliseAt 37 = .ok (.istore_n 2, 1) := by decide +kernel
theorem dX3_penaliseAt_38 : decode cX3_penaliseAt 38 = .ok (.aload_n 0, 1) := by decide +kernel
theorem dX3_penaliseAt_39 : decode cX3_penaliseAt 39 = .ok (.iload_n 1, 1) := by decide +kernel
theorem dX3_penaliseAt_40 : decode cX3_penaliseAt 40 = .ok (.iload_n 2, 1) := by decide +kernel
theorem dX3_penaliseAt_41 : decode cX3_penaliseAt 41 = .ok (.iadd, 1) := by decide +kernel
theorem dX3_penaliseAt_42 : decode cX3_penaliseAt 42 = .ok (.putfield 39, 3) := by decide +kernel
theorem dX3_penaliseAt_45 : decode cX3_penaliseAt 45 = .ok (.iload_n 2, 1) := by decide +kernel
theorem dX3_penaliseAt_46 : decode cX3_penaliseAt 46 = .ok (.ireturn, 1) := by decide +kernel
set_option maxRecDepth 20000 in
theorem ggX3_learn_J9_floorDiv_7cf53 : GoodIn wsX3_learn wsJ9_floorDiv_7cf53 := goodIn_r _ [14] (by decide +kernel) (by decide +kernel)
set_option maxRecDepth 20000 in
theorem gX3_learn_J9_floorDiv_7cf53 : GoodIn wsX3_learn (va_wsS RX3 42 yJ9_floorDiv_7cf53 wsJ9_floorDiv_7cf53) := goodIn_app (goodIn_of _ (by decide +kernel)) ggX3_learn_J9_floorDiv_7cf53
theorem dX3_learn_0 : decode cX3_learn 0 = .ok (.aload_n 0, 1) := by decide +kernel
theorem dX3_learn_1 : decode cX3_learn 1 = .ok (.getfield 9, 3) := by decide +kernel
theorem dX3_learn_4 : decode cX3_learn 4 = .ok (.aload_n 0, 1) := by decide +kernel
theorem dX3_learn_5 : decode cX3_learn 5 = .ok (.getfield 18, 3) := by decide +kernel
theorem dX3_learn_8 : decode cX3_learn 8 = .ok (.iload_n 1, 1) := by decide +kernel
theorem dX3_learn_9 : decode cX3_learn 9 = .ok (.imul, 1) := by decide +kernel
theorem dX3_learn_10 : decode cX3_learn 10 = .ok (.sipush 8000, 3) := by decide +kernel
theorem dX3_learn_13 : decode cX3_learn 13 = .ok (.invokestatic 42, 3) := by decide +kernel
theorem dX3_learn_16 : decode cX3_learn 16 = .ok (.iadd, 1) := by decide +kernel
theorem dX3_learn_17 : decode cX3_learn 17 = .ok (.istore_n 2, 1) := by decide +kernel
theorem dX3_learn_18 : decode cX3_learn 18 = .ok (.aload_n 0, 1) := by decide +kernel
theorem dX3_learn_19 : decode cX3_learn 19 = .ok (.sipush 4000, 3) := by decide +kernel
theorem dX3_learn_22 : decode cX3_learn 22 = .ok (.iconst 0, 1) := by decide +kernel
theorem dX3_learn_23 : decode cX3_learn 23 = .ok (.iload_n 2, 1) := by decide +kernel
theorem dX3_learn_24 : decode cX3_learn 24 = .ok (.invokestatic 45, 3) := by decide +kernel
theorem dX3_learn_27 : decode cX3_learn 27 = .ok (.invokestatic 33, 3) := by decide +kernel
theorem dX3_learn_30 : decode cX3_learn 30 = .ok (.putfield 9, 3) := by decide +kernel
theorem dX3_learn_33 : decode cX3_learn 33 = .ok (.aload_n 0, 1) := by decide +kernel
theorem dX3_learn_34 : decode cX3_learn 34 = .ok (.bipush 50, 2) := by decide +kernel
theorem dX3_learn_36 : decode cX3_learn 36 = .ok (.aload_n 0, 1) := by decide +kernel
theorem dX3_learn_37 : decode cX3_learn 37 = .ok (.getfield 18, 3) := by decide +kernel
theorem dX3_learn_40 : decode cX3_learn 40 = .ok (.bipush 9, 2) := by decide +kernel
theorem dX3_learn_42 : decode cX3_learn 42 = .ok (.imul, 1) := by decide +kernel
theorem dX3_learn_43 : decode cX3_learn 43 = .ok (.bipush 10, 2) := by decide +kernel
theorem dX3_learn_45 : decode cX3_learn 45 = .ok (.idiv, 1) := by decide +kernel
theorem dX3_learn_46 : decode cX3_learn 46 = .ok (.invokestatic 45, 3) := by decide +kernel
theorem dX3_learn_49 : decode cX3_learn 49 = .ok (.putfield 18, 3) := by decide +kernel
theorem dX3_learn_52 : decode cX3_learn 52 = .ok (.aload_n 0, 1) := by decide +kernel
theorem dX3_learn_53 : decode cX3_learn 53 = .ok (.iconst 0, 1) := by decide +kernel
theorem dX3_learn_54 : decode cX3_learn 54 = .ok (.aload_n 0, 1) := by decide +kernel
theorem dX3_learn_55 : decode cX3_learn 55 = .ok (.getfield 30, 3) := by decide +kernel
theorem dX3_learn_58 : decode cX3_learn 58 = .ok (.iconst 1, 1) := by decide +kernel
theorem dX3_learn_59 : decode cX3_learn 59 = .ok (.isub, 1) := by decide +kernel
theorem dX3_learn_60 : decode cX3_learn 60 = .ok (.invokestatic 45, 3) := by decide +kernel
theorem dX3_learn_63 : decode cX3_learn 63 = .ok (.putfield 30, 3) := by decide +kernel
theorem dX3_learn_66 : decode cX3_learn 66 = .ok (.return_, 1) := by decide +kernel
theorem dX4_of_0 : decode cX4_of 0 = .ok (.iconst 0, 1) := by decide +kernel
theorem dX4_of_1 : decode cX4_of 1 = .ok (.istore_n 1, 1) := by decide +kernel
theorem dX4_of_2 : decode cX4_of 2 = .ok (.iconst 1, 1) := by decide +kernel
theorem dX4_of_3 : decode cX4_of 3 = .ok (.istore_n 2, 1) := by decide +kernel
theorem dX4_of_4 : decode cX4_of 4 = .ok (.iload_n 2, 1) := by decide +kernel
theorem dX4_of_5 : decode cX4_of 5 = .ok (.bipush 7, 2) := by decide +kernel
theorem dX4_of_7 : decode cX4_of 7 = .ok (.if_icmp .ge 25, 3) := by decide +kernel
theorem dX4_of_10 : decode cX4_of 10 = .ok (.iload_n 0, 1) := by decide +kernel
theorem dX4_of_11 : decode cX4_of 11 = .ok (.iload_n 2, 1) := by decide +kernel
theorem dX4_of_12 : decode cX4_of 12 = .ok (.iconst (-1), 1) := by decide +kernel
theorem dX4_of_13 : decode cX4_of 13 = .ok (.ixor, 1) := by decide +kernel
theorem dX4_of_14 : decode cX4_of 14 = .ok (.iand, 1) := by decide +kernel
theorem dX4_of_15 : decode cX4_of 15 = .ok (.ifCond .ne 11, 3) := by decide +kernel
theorem dX4_of_18 : decode cX4_of 18 = .ok (.iload_n 1, 1) := by decide +kernel
theorem dX4_of_19 : decode cX4_of 19 = .ok (.iconst 1, 1) := by decide +kernel
theorem dX4_of_20 : decode cX4_of 20 = .ok (.iconst 4, 1) := by decide +kernel
theorem dX4_of_21 : decode cX4_of 21 = .ok (.iload_n 2, 1) := by decide +kernel
theorem dX4_of_22 : decode cX4_of 22 = .ok (.imul, 1) := by decide +kernel
theorem dX4_of_23 : decode cX4_of 23 = .ok (.ishl, 1) := by decide +kernel
theorem dX4_of_24 : decode cX4_of 24 = .ok (.iadd, 1) := by decide +kernel
theorem dX4_of_25 : decode cX4_of 25 = .ok (.istore_n 1, 1) := by decide +kernel
theorem dX4_of_26 : decode cX4_of 26 = .ok (.iinc 2 1, 3) := by decide +kernel
theorem dX4_of_29 : decode cX4_of 29 = .ok (.goto (-25), 3) := by decide +kernel
theorem dX4_of_32 : decode cX4_of 32 = .ok (.iload_n 1, 1) := by decide +kernel
theorem dX4_of_33 : decode cX4_of 33 = .ok (.ireturn, 1) := by decide +kernel
set_option maxRecDepth 20000 in
theorem ggX4_suffice_J6_bitCount_0f7a4 : GoodIn wsX4_suffice wsJ6_bitCount_0f7a4 := goodIn_r _ [4, 5, 6, 7] (by decide +kernel) (by decide +kernel)
set_option maxRecDepth 20000 in
theorem gX4_suffice_J6_bitCount_0f7a4 : GoodIn wsX4_suffice (va_wsS RX4 9 yJ6_bitCount_0f7a4 wsJ6_bitCount_0f7a4) := goodIn_app (goodIn_of _ (by decide +kernel)) ggX4_suffice_J6_bitCount_0f7a4
theorem dX4_suffice_0 : decode cX4_suffice 0 = .ok (.iconst 1, 1) := by decide +kernel
theorem dX4_suffice_1 : decode cX4_suffice 1 = .ok (.istore_n 2, 1) := by decide +kernel
theorem dX4_suffice_2 : decode cX4_suffice 2 = .ok (.iload_n 2, 1) := by decide +kernel
theorem dX4_suffice_3 : decode cX4_suffice 3 = .ok (.bipush 7, 2) := by decide +kernel
theorem dX4_suffice_5 : decode cX4_suffice 5 = .ok (.if_icmp .ge 28, 3) := by decide +kernel
theorem dX4_suffice_8 : decode cX4_suffice 8 = .ok (.iload_n 0, 1) := by decide +kernel
theorem dX4_suffice_9 : decode cX4_suffice 9 = .ok (.iconst 4, 1) := by decide +kernel
theorem dX4_suffice_10 : decode cX4_suffice 10 = .ok (.iload_n 2, 1) := by decide +kernel
theorem dX4_suffice_11 : decode cX4_suffice 11 = .ok (.imul, 1) := by decide +kernel
theorem dX4_suffice_12 : decode cX4_suffice 12 = .ok (.ishr, 1) := by decide +kernel
theorem dX4_suffice_13 : decode cX4_suffice 13 = .ok (.bipush 15, 2) := by decide +kernel
theorem dX4_suffice_15 : decode cX4_suffice 15 = .ok (.iand, 1) := by decide +kernel
theorem dX4_suffice_16 : decode cX4_suffice 16 = .ok (.iload_n 1, 1) := by decide +kernel
theorem dX4_suffice_17 : decode cX4_suffice 17 = .ok (.iload_n 2, 1) := by decide +kernel
theorem dX4_suffice_18 : decode cX4_suffice 18 = .ok (.invokestatic 9, 3) := by decide +kernel
theorem dX4_suffice_21 : decode cX4_suffice 21 = .ok (.imul, 1) := by decide +kernel
theorem dX4_suffice_22 : decode cX4_suffice 22 = .ok (.if_icmp .le 5, 3) := by decide +kernel
theorem dX4_suffice_25 : decode cX4_suffice 25 = .ok (.iconst 0, 1) := by decide +kernel
theorem dX4_suffice_26 : decode cX4_suffice 26 = .ok (.ireturn, 1) := by decide +kernel
theorem dX4_suffice_27 : decode cX4_suffice 27 = .ok (.iinc 2 1, 3) := by decide +kernel
theorem dX4_suffice_30 : decode cX4_suffice 30 = .ok (.goto (-28), 3) := by decide +kernel
theorem dX4_suffice_33 : decode cX4_suffice 33 = .ok (.iconst 1, 1) := by decide +kernel
theorem dX4_suffice_34 : decode cX4_suffice 34 = .ok (.ireturn, 1) := by decide +kernel
set_option maxRecDepth 20000 in
theorem ggX5_init_Jx4a65c_init_da8c8 : GoodIn wsX5_init wsJx4a65c_init_da8c8 := goodIn_r _ [17, 18, 19, 20, 21, 22, 23, 24, 25, 26, 27, 28, 29, 2, 3, 38, 39, 40] (by decide +kernel) (by decide +kernel)
set_option maxRecDepth 20000 in
theorem gX5_init_Jx4a65c_init_da8c8 : GoodIn wsX5_init (wsJx4a65c_init_da8c8) := ggX5_init_Jx4a65c_init_da8c8
set_option maxRecDepth 20000 in
theorem ggX5_init_X0_init : GoodIn wsX5_init wsX0_init := goodIn_r _ [32, 33, 2, 3, 34, 5, 6, 35, 36, 37, 16, 17, 18, 19, 20, 21, 22, 23, 24, 25, 26, 27, 28, 29, 38, 39, 40, 46, 47, 48, 49, 50] (by decide +kernel) (by decide +kernel)
set_option maxRecDepth 20000 in
theorem gX5_init_X0_init : GoodIn wsX5_init (wsX0_init) := ggX5_init_X0_init
theorem dX5_init_0 : decode cX5_init 0 = .ok (.aload_n 0, 1) := by decide +kernel
theorem dX5_init_1 : decode cX5_init 1 = .ok (.invokespecial 1, 3) := by decide +kernel
theorem dX5_init_4 : decode cX5_init 4 = .ok (.aload_n 0, 1) := by decide +kernel
theorem dX5_init_5 : decode cX5_init 5 = .ok (.new 7, 3) := by decide +kernel
theorem dX5_init_8 : decode cX5_init 8 = .ok (.dup, 1) := by decide +kernel
theorem dX5_init_9 : decode cX5_init 9 = .ok (.invokespecial 9, 3) := by decide +kernel
theorem dX5_init_12 : decode cX5_init 12 = .ok (.putfield 10, 3) := by decide +kernel
theorem dX5_init_15 : decode cX5_init 15 = .ok (.aload_n 0, 1) := by decide +kernel
theorem dX5_init_16 : decode cX5_init 16 = .ok (.new 7, 3) := by decide +kernel
theorem dX5_init_19 : decode cX5_init 19 = .ok (.dup, 1) := by decide +kernel
theorem dX5_init_20 : decode cX5_init 20 = .ok (.invokespecial 9, 3) := by decide +kernel
theorem dX5_init_23 : decode cX5_init 23 = .ok (.putfield 16, 3) := by decide +kernel
theorem dX5_init_26 : decode cX5_init 26 = .ok (.aload_n 0, 1) := by decide +kernel
theorem dX5_init_27 : decode cX5_init 27 = .ok (.new 7, 3) := by decide +kernel
theorem dX5_init_30 : decode cX5_init 30 = .ok (.dup, 1) := by decide +kernel
theorem dX5_init_31 : decode cX5_init 31 = .ok (.invokespecial 9, 3) := by decide +kernel
theorem dX5_init_34 : decode cX5_init 34 = .ok (.putfield 19, 3) := by decide +kernel
theorem dX5_init_37 : decode cX5_init 37 = .ok (.aload_n 0, 1) := by decide +kernel
theorem dX5_init_38 : decode cX5_init 38 = .ok (.new 22, 3) := by decide +kernel
theorem dX5_init_41 : decode cX5_init 41 = .ok (.dup, 1) := by decide +kernel
theorem dX5_init_42 : decode cX5_init 42 = .ok (.invokespecial 24, 3) := by decide +kernel
theorem dX5_init_45 : decode cX5_init 45 = .ok (.putfield 25, 3) := by decide +kernel
theorem dX5_init_48 : decode cX5_init 48 = .ok (.aload_n 0, 1) := by decide +kernel
theorem dX5_init_49 : decode cX5_init 49 = .ok (.iconst 0, 1) := by decide +kernel
theorem dX5_init_50 : decode cX5_init 50 = .ok (.putfield 29, 3) := by decide +kernel
theorem dX5_init_53 : decode cX5_init 53 = .ok (.return_, 1) := by decide +kernel
set_option maxRecDepth 20000 in
theorem ggX5_addPlayer_Jx4a65c_size_8abf5 : GoodIn wsX5_addPlayer wsJx4a65c_size_8abf5 := goodIn_r _ [13, 14, 89, 90, 91] (by decide +kernel) (by decide +kernel)
set_option maxRecDepth 20000 in
theorem gX5_addPlayer_Jx4a65c_size_8abf5 : GoodIn wsX5_addPlayer (wsV RX5 40 RJx4a65c yJx4a65c_size_8abf5 wsJx4a65c_size_8abf5) := goodIn_app (goodIn_of _ (by decide +kernel)) ggX5_addPlayer_Jx4a65c_size_8abf5
set_option maxRecDepth 20000 in
theorem ggX5_addPlayer_X3_init : GoodIn wsX5_addPlayer wsX3_init := goodIn_r _ [17, 18, 19, 20, 21, 22, 23, 83, 84, 85, 86, 87, 88] (by decide +kernel) (by decide +kernel)
set_option maxRecDepth 20000 in
theorem gX5_addPlayer_X3_init : GoodIn wsX5_addPlayer (wsX3_init) := ggX5_addPlayer_X3_init
set_option maxRecDepth 20000 in
theorem ggX5_addPlayer_Jx4a65c_add_9ea2d : GoodIn wsX5_addPlayer wsJx4a65c_add_9ea2d := goodIn_r _ [27, 28, 29, 30, 14, 31, 32, 33, 12, 34, 35, 36, 37, 38, 39, 40, 41, 42, 43, 44, 45, 46, 47, 48, 49, 50, 51, 52, 53, 54, 55, 56, 57, 58, 59, 60, 61, 62, 63, 64, 65, 66, 67, 68, 69, 70, 71, 72, 73, 74, 75, 76, 77, 89, 90, 91] (by decide +kernel) (by decide +kernel)
set_option maxRecDepth 20000 in
theorem gX5_addPlayer_Jx4a65c_add_9ea2d : GoodIn wsX5_addPlayer (wsV RX5 54 RJx4a65c yJx4a65c_add_9ea2d wsJx4a65c_add_9ea2d) := goodIn_app (goodIn_of _ (by decide +kernel)) ggX5_addPlayer_Jx4a65c_add_9ea2d
theorem dX5_addPlayer_0 : decode cX5_addPlayer 0 = .ok (.iload_n 1, 1) := by decide +kernel
theorem dX5_addPlayer_1 : decode cX5_addPlayer 1 = .ok (.ifCond .lt 21, 3) := by decide +kernel
theorem dX5_addPlayer_4 : decode cX5_addPlayer 4 = .ok (.iload_n 1, 1) := by decide +kernel
theorem dX5_addPlayer_5 : decode cX5_addPlayer 5 = .ok (.sipush 4000, 3) := by decide +kernel
theorem dX5_addPlayer_8 : decode cX5_addPlayer 8 = .ok (.if_icmp .gt 14, 3) := by decide +kernel
theorem dX5_addPlayer_11 : decode cX5_addPlayer 11 = .ok (.iload_n 2, 1) := by decide +kernel
theorem dX5_addPlayer_12 : decode cX5_addPlayer 12 = .ok (.iconst 1, 1) := by decide +kernel
theorem dX5_addPlayer_13 : decode cX5_addPlayer 13 = .ok (.if_icmp .lt 9, 3) := by decide +kernel
theorem dX5_addPlayer_16 : decode cX5_addPlayer 16 = .ok (.iload_n 2, 1) := by decide +kernel
theorem dX5_addPlayer_17 : decode cX5_addPlayer 17 = .ok (.bipush 7, 2) := by decide +kernel
theorem dX5_addPlayer_19 : decode cX5_addPlayer 19 = .ok (.if_icmp .le 13, 3) := by decide +kernel
theorem dX5_addPlayer_22 : decode cX5_addPlayer 22 = .ok (.new 33, 3) := by decide +kernel
theorem dX5_addPlayer_25 : decode cX5_addPlayer 25 = .ok (.dup, 1) := by decide +kernel
theorem dX5_addPlayer_26 : decode cX5_addPlayer 26 = .ok (.ldc 35, 2) := by decide +kernel
theorem dX5_addPlayer_28 : decode cX5_addPlayer 28 = .ok (.invokespecial 37, 3) := by decide +kernel
theorem dX5_addPlayer_31 : decode cX5_addPlayer 31 = .ok (.athrow, 1) := by decide +kernel
theorem dX5_addPlayer_32 : decode cX5_addPlayer 32 = .ok (.aload_n 0, 1) := by decide +kernel
theorem dX5_addPlayer_33 : decode cX5_addPlayer 33 = .ok (.getfield 10, 3) := by decide +kernel
theorem dX5_addPlayer_36 : decode cX5_addPlayer 36 = .ok (.invokevirtual 40, 3) := by decide +kernel
theorem dX5_addPlayer_39 : decode cX5_addPlayer 39 = .ok (.bipush 18, 2) := by decide +kernel
theorem dX5_addPlayer_41 : decode cX5_addPlayer 41 = .ok (.if_icmp .lt 13, 3) := by decide +kernel
theorem dX5_addPlayer_44 : decode cX5_addPlayer 44 = .ok (.new 44, 3) := by decide +kernel
theorem dX5_addPlayer_47 : decode cX5_addPlayer 47 = .ok (.dup, 1) := by decide +kernel
theorem dX5_addPlayer_48 : decode cX5_addPlayer 48 = .ok (.ldc 46, 2) := by decide +kernel
theorem dX5_addPlayer_50 : decode cX5_addPlayer 50 = .ok (.invokespecial 48, 3) := by decide +kernel
theorem dX5_addPlayer_53 : decode cX5_addPlayer 53 = .ok (.athrow, 1) := by decide +kernel
theorem dX5_addPlayer_54 : decode cX5_addPlayer 54 = .ok (.aload_n 0, 1) := by decide +kernel
theorem dX5_addPlayer_55 : decode cX5_addPlayer 55 = .ok (.getfield 10, 3) := by decide +kernel
theorem dX5_addPlayer_58 : decode cX5_addPlayer 58 = .ok (.new 49, 3) := by decide +kernel
theorem dX5_addPlayer_61 : decode cX5_addPlayer 61 = .ok (.dup, 1) := by decide +kernel
theorem dX5_addPlayer_62 : decode cX5_addPlayer 62 = .ok (.iload_n 1, 1) := by decide +kernel
theorem dX5_addPlayer_63 : decode cX5_addPlayer 63 = .ok (.iload_n 2, 1) := by decide +kernel
theorem dX5_addPlayer_64 : decode cX5_addPlayer 64 = .ok (.invokespecial 51, 3) := by decide +kernel
theorem dX5_addPlayer_67 : decode cX5_addPlayer 67 = .ok (.invokevirtual 54, 3) := by decide +kernel
theorem dX5_addPlayer_70 : decode cX5_addPlayer 70 = .ok (.pop, 1) := by decide +kernel
theorem dX5_addPlayer_71 : decode cX5_addPlayer 71 = .ok (.aload_n 0, 1) := by decide +kernel
theorem dX5_addPlayer_72 : decode cX5_addPlayer 72 = .ok (.getfield 10, 3) := by decide +kernel
theorem dX5_addPlayer_75 : decode cX5_addPlayer 75 = .ok (.invokevirtual 40, 3) := by decide +kernel
theorem dX5_addPlayer_78 : decode cX5_addPlayer 78 = .ok (.iconst 1, 1) := by decide +kernel
theorem dX5_addPlayer_79 : decode cX5_addPlayer 79 = .ok (.isub, 1) := by decide +kernel
theorem dX5_addPlayer_80 : decode cX5_addPlayer 80 = .ok (.ireturn, 1) := by decide +kernel
set_option maxRecDepth 20000 in
theorem ggX5_queue_J6_bitCount_0f7a4 : GoodIn wsX5_queue wsJ6_bitCount_0f7a4 := goodIn_r _ [15, 16, 17, 18] (by decide +kernel) (by decide +kernel)
set_option maxRecDepth 20000 in
theorem gX5_queue_J6_bitCount_0f7a4 : GoodIn wsX5_queue (va_wsS RX5 58 yJ6_bitCount_0f7a4 wsJ6_bitCount_0f7a4) := goodIn_app (goodIn_of _ (by decide +kernel)) ggX5_queue_J6_bitCount_0f7a4
set_option maxRecDepth 20000 in
theorem ggX5_queue_Jx4a65c_size_8abf5 : GoodIn wsX5_queue wsJx4a65c_size_8abf5 := goodIn_r _ [23, 24, 158, 159, 160] (by decide +kernel) (by decide +kernel)
set_option maxRecDepth 20000 in
theorem gX5_queue_Jx4a65c_size_8abf5 : GoodIn wsX5_queue (wsV RX5 40 RJx4a65c yJx4a65c_size_8abf5 wsJx4a65c_size_8abf5) := goodIn_app (goodIn_of _ (by decide +kernel)) ggX5_queue_Jx4a65c_size_8abf5
set_option maxRecDepth 20000 in
theorem ggX5_queue_X5_allMayQueue : GoodIn wsX5_queue wsX5_allMayQueue := goodIn_r _ [29, 5, 11, 30, 10, 19, 20, 21, 22, 23, 24, 31, 32, 33, 34, 35, 36, 37, 38, 39, 40, 41, 42, 43, 44, 45, 46, 47, 48, 49, 28, 50, 51, 52, 53, 54, 55, 56, 57, 148, 149, 150, 151, 152, 161, 162, 163, 164, 165, 166, 158, 159, 160, 153, 154, 155, 156, 157] (by decide +kernel) (by decide +kernel)
set_option maxRecDepth 20000 in
theorem gX5_queue_X5_allMayQueue : GoodIn wsX5_queue (wsV RX5 66 RX5 yX5_allMayQueue wsX5_allMayQueue) := goodIn_app (goodIn_of _ (by decide +kernel)) ggX5_queue_X5_allMayQueue
set_option maxRecDepth 20000 in
theorem ggX5_queue_X2_init : GoodIn wsX5_queue wsX2_init := goodIn_r _ [60, 61, 62, 63, 64, 65, 66, 67, 22, 68, 69, 70, 71, 72, 73, 47, 74, 75, 76, 77, 78, 79, 80, 81, 82, 83, 153, 154, 155, 156, 157, 158, 159, 160] (by decide +kernel) (by decide +kernel)
set_option maxRecDepth 20000 in
theorem gX5_queue_X2_init : GoodIn wsX5_queue (wsX2_init) := ggX5_queue_X2_init
set_option maxRecDepth 20000 in
theorem ggX5_queue_X5_has : GoodIn wsX5_queue wsX5_has := goodIn_r _ [50] (by decide +kernel) (by decide +kernel)
set_option maxRecDepth 20000 in
theorem gX5_queue_X5_has : GoodIn wsX5_queue (va_wsS RX5 75 yX5_has wsX5_has) := goodIn_app (goodIn_of _ (by decide +kernel)) ggX5_queue_X5_has
set_option maxRecDepth 20000 in
theorem ggX5_queue_Jx4a65c_get_915e3 : GoodIn wsX5_queue wsJx4a65c_get_915e3 := goodIn_r _ [34, 24, 35, 36, 37, 38, 39, 40, 41, 42, 43, 44, 45, 22, 46, 47, 158, 159, 160] (by decide +kernel) (by decide +kernel)
set_option maxRecDepth 20000 in
theorem gX5_queue_Jx4a65c_get_915e3 : GoodIn wsX5_queue (wsV RX5 79 RJx4a65c yJx4a65c_get_915e3 wsJx4a65c_get_915e3) := goodIn_app (goodIn_of _ (by decide +kernel)) ggX5_queue_Jx4a65c_get_915e3
set_option maxRecDepth 20000 in
theorem ggX5_queue_X2_join : GoodIn wsX5_queue wsX2_join := goodIn_r _ [87, 68, 88, 89, 90, 91, 92, 93, 22, 94, 95, 96, 47, 24, 97, 98, 99, 100, 101, 102, 103, 104, 105, 106, 107, 108, 73, 109, 110, 111, 112, 113, 114, 115, 116, 117, 118, 119, 120, 121, 122, 123, 124, 125, 126, 127, 128, 129, 130, 131, 132, 133, 134, 135, 136, 137, 138, 139, 140, 141, 142, 143, 144, 145, 146, 153, 154, 155, 156, 157, 161, 162, 163, 164, 165, 166, 158, 159, 160] (by decide +kernel) (by decide +kernel)
set_option maxRecDepth 20000 in
theorem gX5_queue_X2_join : GoodIn wsX5_queue (wsV RX5 83 RX2 yX2_join wsX2_join) := goodIn_app (goodIn_of _ (by decide +kernel)) ggX5_queue_X2_join
set_option maxRecDepth 20000 in
theorem ggX5_queue_Jx4a65c_add_9ea2d : GoodIn wsX5_queue wsJx4a65c_add_9ea2d := goodIn_r _ [94, 95, 96, 47, 24, 97, 98, 99, 22, 100, 101, 102, 103, 104, 105, 106, 107, 108, 73, 109, 110, 111, 112, 113, 114, 115, 116, 117, 118, 119, 120, 121, 122, 123, 124, 125, 126, 127, 128, 129, 130, 131, 132, 133, 134, 135, 136, 137, 138, 139, 140, 141, 142, 158, 159, 160] (by decide +kernel) (by decide +kernel)
set_option maxRecDepth 20000 in
theorem gX5_queue_Jx4a65c_add_9ea2d : GoodIn wsX5_queue (wsV RX5 54 RJx4a65c yJx4a65c_add_9ea2d wsJx4a65c_add_9ea2d) := goodIn_app (goodIn_of _ (by decide +kernel)) ggX5_queue_Jx4a65c_add_9ea2d
theorem dX5_queue_0 : decode cX5_queue 0 = .ok (.iload_n 1, 1) := by decide +kernel
theorem dX5_queue_1 : decode cX5_queue 1 = .ok (.ifCond .eq 23, 3) := by decide +kernel
theorem dX5_queue_4 : decode cX5_queue 4 = .ok (.iload_n 1, 1) := by decide +kernel
theorem dX5_queue_5 : decode cX5_queue 5 = .ok (.invokestatic 58, 3) := by decide +kernel
theorem dX5_queue_8 : decode cX5_queue 8 = .ok (.iconst 3, 1) := by decide +kernel
theorem dX5_queue_9 : decode cX5_queue 9 = .ok (.if_icmp .gt 15, 3) := by decide +kernel
theorem dX5_queue_12 : decode cX5_queue 12 = .ok (.iload_n 1, 1) := by decide +kernel
theorem dX5_queue_13 : decode cX5_queue 13 = .ok (.aload_n 0, 1) := by decide +kernel
theorem dX5_queue_14 : decode cX5_queue 14 = .ok (.getfield 10, 3) := by decide +kernel
theorem dX5_queue_17 : decode cX5_queue 17 = .ok (.invokevirtual 40, 3) := by decide +kernel
theorem dX5_queue_20 : decode cX5_queue 20 = .ok (.ishr, 1) := by decide +kernel
theorem dX5_queue_21 : decode cX5_queue 21 = .ok (.ifCond .eq 13, 3) := by decide +kernel
theorem dX5_queue_24 : decode cX5_queue 24 = .ok (.new 33, 3) := by decide +kernel
theorem dX5_queue_27 : decode cX5_queue 27 = .ok (.dup, 1) := by decide +kernel
theorem dX5_queue_28 : decode cX5_queue 28 = .ok (.ldc 64, 2) := by decide +kernel
theorem dX5_queue_30 : decode cX5_queue 30 = .ok (.invokespecial 37, 3) := by decide +kernel
theorem dX5_queue_33 : decode cX5_queue 33 = .ok (.athrow, 1) := by decide +kernel
theorem dX5_queue_34 : decode cX5_queue 34 = .ok (.aload_n 0, 1) := by decide +kernel
theorem dX5_queue_35 : decode cX5_queue 35 = .ok (.getfield 16, 3) := by decide +kernel
theorem dX5_queue_38 : decode cX5_queue 38 = .ok (.invokevirtual 40, 3) := by decide +kernel
theorem dX5_queue_41 : decode cX5_queue 41 = .ok (.bipush 100, 2) := by decide +kernel
theorem dX5_queue_43 : decode cX5_queue 43 = .ok (.if_icmp .ge 11, 3) := by decide +kernel
theorem dX5_queue_46 : decode cX5_queue 46 = .ok (.aload_n 0, 1) := by decide +kernel
theorem dX5_queue_47 : decode cX5_queue 47 = .ok (.iload_n 1, 1) := by decide +kernel
theorem dX5_queue_48 : decode cX5_queue 48 = .ok (.invokevirtual 66, 3) := by decide +kernel
theorem dX5_queue_51 : decode cX5_queue 51 = .ok (.ifCond .ne 13, 3) := by decide +kernel
theorem dX5_queue_54 : decode cX5_queue 54 = .ok (.new 44, 3) := by decide +kernel
theorem dX5_queue_57 : decode cX5_queue 57 = .ok (.dup, 1) := by decide +kernel
theorem dX5_queue_58 : decode cX5_queue 58 = .ok (.ldc 70, 2) := by decide +kernel
theorem dX5_queue_60 : decode cX5_queue 60 = .ok (.invokespecial 48, 3) := by decide +kernel
theorem dX5_queue_63 : decode cX5_queue 63 = .ok (.athrow, 1) := by decide +kernel
theorem dX5_queue_64 : decode cX5_queue 64 = .ok (.new 72, 3) := by decide +kernel
theorem dX5_queue_67 : decode cX5_queue 67 = .ok (.dup, 1) := by decide +kernel
theorem dX5_queue_68 : decode cX5_queue 68 = .ok (.iload_n 1, 1) := by decide +kernel
theorem dX5_queue_69 : decode cX5_queue 69 = .ok (.aload_n 0, 1) := by decide +kernel
theorem dX5_queue_70 : decode cX5_queue 70 = .ok (.getfield 29, 3) := by decide +kernel
theorem dX5_queue_73 : decode cX5_queue 73 = .ok (.invokespecial 74, 3) := by decide +kernel
theorem dX5_queue_76 : decode cX5_queue 76 = .ok (.astore_n 2, 1) := by decide +kernel
theorem dX5_queue_77 : decode cX5_queue 77 = .ok (.iconst 0, 1) := by decide +kernel
theorem dX5_queue_78 : decode cX5_queue 78 = .ok (.istore_n 3, 1) := by decide +kernel
theorem dX5_queue_79 : decode cX5_queue 79 = .ok (.iload_n 3, 1) := by decide +kernel
theorem dX5_queue_80 : decode cX5_queue 80 = .ok (.aload_n 0, 1) := by decide +kernel
theorem dX5_queue_81 : decode cX5_queue 81 = .ok (.getfield 10, 3) := by decide +kernel
theorem dX5_queue_84 : decode cX5_queue 84 = .ok (.invokevirtual 40, 3) := by decide +kernel
theorem dX5_queue_87 : decode cX5_queue 87 = .ok (.if_icmp .ge 32, 3) := by decide +kernel
theorem dX5_queue_90 : decode cX5_queue 90 = .ok (.iload_n 1, 1) := by decide +kernel
theorem dX5_queue_91 : decode cX5_queue 91 = .ok (.iload_n 3, 1) := by decide +kernel
theorem dX5_queue_92 : decode cX5_queue 92 = .ok (.invokestatic 75, 3) := by decide +kernel
theorem dX5_queue_95 : decode cX5_queue 95 = .ok (.ifCond .eq 18, 3) := by decide +kernel
theorem dX5_queue_98 : decode cX5_queue 98 = .ok (.aload_n 2, 1) := by decide +kernel
theorem dX5_queue_99 : decode cX5_queue 99 = .ok (.aload_n 0, 1) := by decide +kernel
theorem dX5_queue_100 : decode cX5_queue 100 = .ok (.getfield 10, 3) := by decide +kernel
theorem dX5_queue_103 : decode cX5_queue 103 = .ok (.iload_n 3, 1) := by decide +kernel
theorem dX5_queue_104 : decode cX5_queue 104 = .ok (.invokevirtual 79, 3) := by decide +kernel
theorem dX5_queue_107 : decode cX5_queue 107 = .ok (.checkcast 49, 3) := by decide +kernel
theorem dX5_queue_110 : decode cX5_queue 110 = .ok (.invokevirtual 83, 3) := by decide +kernel
theorem dX5_queue_113 : decode cX5_queue 113 = .ok (.iinc 3 1, 3) := by decide +kernel
theorem dX5_queue_116 : decode cX5_queue 116 = .ok (.goto (-37), 3) := by decide +kernel
theorem dX5_queue_119 : decode cX5_queue 119 = .ok (.aload_n 0, 1) := by decide +kernel
theorem dX5_queue_120 : decode cX5_queue 120 = .ok (.getfield 16, 3) := by decide +kernel
theorem dX5_queue_123 : decode cX5_queue 123 = .ok (.aload_n 2, 1) := by decide +kernel
theorem dX5_queue_124 : decode cX5_queue 124 = .ok (.invokevirtual 54, 3) := by decide +kernel
theorem dX5_queue_127 : decode cX5_queue 127 = .ok (.pop, 1) := by decide +kernel
theorem dX5_queue_128 : decode cX5_queue 128 = .ok (.aload_n 0, 1) := by decide +kernel
theorem dX5_queue_129 : decode cX5_queue 129 = .ok (.getfield 16, 3) := by decide +kernel
theorem dX5_queue_132 : decode cX5_queue 132 = .ok (.invokevirtual 40, 3) := by decide +kernel
theorem dX5_queue_135 : decode cX5_queue 135 = .ok (.iconst 1, 1) := by decide +kernel
theorem dX5_queue_136 : decode cX5_queue 136 = .ok (.isub, 1) := by decide +kernel
theorem dX5_queue_137 : decode cX5_queue 137 = .ok (.ireturn, 1) := by decide +kernel
set_option maxRecDepth 20000 in
theorem ggX5_leave_X5_queuingParty : GoodIn wsX5_leave wsX5_queuingParty := goodIn_ca (goodIn_ca (goodIn_r _ [8, 9, 10, 1, 11, 12, 13, 7, 14, 15, 16, 17, 18, 19, 20, 21, 22, 23, 24, 25, 26, 27, 28, 29, 30, 31, 32, 33, 34, 35, 36, 37, 38, 39, 40, 41, 42, 43, 44, 45, 46, 47, 48, 49, 50, 51, 52, 53, 54] (by decide +kernel) (by decide +kernel)) (goodIn_sub (fun _ h => List.mem_cons_of_mem _ (List.mem_append_left _ (List.mem_append_right _ h))) (by decide +kernel))) (goodIn_sub (fun _ h => List.mem_cons_of_mem _ (List.mem_append_right _ h)) (by decide +kernel))
set_option maxRecDepth 20000 in
theorem gX5_leave_X5_queuingParty : GoodIn wsX5_leave (wsV RX5 87 RX5 yX5_queuingParty wsX5_queuingParty) := goodIn_app (goodIn_of _ (by decide +kernel)) ggX5_leave_X5_queuingParty
theorem dX5_leave_0 : decode cX5_leave 0 = .ok (.aload_n 0, 1) := by decide +kernel
theorem dX5_leave_1 : decode cX5_leave 1 = .ok (.iload_n 1, 1) := by decide +kernel
theorem dX5_leave_2 : decode cX5_leave 2 = .ok (.invokevirtual 87, 3) := by decide +kernel
theorem dX5_leave_5 : decode cX5_leave 5 = .ok (.astore_n 2, 1) := by decide +kernel
theorem dX5_leave_6 : decode cX5_leave 6 = .ok (.aload_n 2, 1) := by decide +kernel
theorem dX5_leave_7 : decode cX5_leave 7 = .ok (.iconst 0, 1) := by decide +kernel
theorem dX5_leave_8 : decode cX5_leave 8 = .ok (.putfield 91, 3) := by decide +kernel
theorem dX5_leave_11 : decode cX5_leave 11 = .ok (.aload_n 0, 1) := by decide +kernel
theorem dX5_leave_12 : decode cX5_leave 12 = .ok (.getfield 29, 3) := by decide +kernel
theorem dX5_leave_15 : decode cX5_leave 15 = .ok (.aload_n 2, 1) := by decide +kernel
theorem dX5_leave_16 : decode cX5_leave 16 = .ok (.getfield 94, 3) := by decide +kernel
theorem dX5_leave_19 : decode cX5_leave 19 = .ok (.isub, 1) := by decide +kernel
theorem dX5_leave_20 : decode cX5_leave 20 = .ok (.ireturn, 1) := by decide +kernel
set_option maxRecDepth 20000 in
theorem ggX5_players_Jx4a65c_size_8abf5 : GoodIn wsX5_players wsJx4a65c_size_8abf5 := goodIn_r _ [6, 7, 13, 14, 15] (by decide +kernel) (by decide +kernel)
set_option maxRecDepth 20000 in
theorem gX5_players_Jx4a65c_size_8abf5 : GoodIn wsX5_players (wsV RX5 40 RJx4a65c yJx4a65c_size_8abf5 wsJx4a65c_size_8abf5) := goodIn_app (goodIn_of _ (by decide +kernel)) ggX5_players_Jx4a65c_size_8abf5
theorem dX5_players_0 : decode cX5_players 0 = .ok (.aload_n 0, 1) := by decide +kernel
theorem dX5_players_1 : decode cX5_players 1 = .ok (.getfield 10, 3) := by decide +kernel
theorem dX5_players_4 : decode cX5_players 4 = .ok (.invokevirtual 40, 3) := by decide +kernel
theorem dX5_players_7 : decode cX5_players 7 = .ok (.ireturn, 1) := by decide +kernel
set_option maxRecDepth 20000 in
theorem ggX5_state_X5_existingPlayer : GoodIn wsX5_state wsX5_existingPlayer := goodIn_ca (goodIn_r _ [5, 6, 7, 8, 9, 10, 11, 12, 13, 14, 15, 16, 17, 18, 19, 20, 21, 22, 23, 24, 25, 26, 27, 28, 29, 30, 31, 32, 40, 41, 42, 43, 44, 45, 46, 47] (by decide +kernel) (by decide +kernel)) (goodIn_sub (fun _ h => List.mem_cons_of_mem _ (List.mem_append_right _ h)) (by decide +kernel))
set_option maxRecDepth 20000 in
theorem gX5_state_X5_existingPlayer : GoodIn wsX5_state (wsV RX5 97 RX5 yX5_existingPlayer wsX5_existingPlayer) := goodIn_app (goodIn_of _ (by decide +kernel)) ggX5_state_X5_existingPlayer
set_option maxRecDepth 20000 in
theorem ggX5_state_X3_standing : GoodIn wsX5_state wsX3_standing := goodIn_r _ [37, 38, 39, 48, 49, 50, 51, 52, 53, 54, 55, 56, 57, 58] (by decide +kernel) (by decide +kernel)
set_option maxRecDepth 20000 in
theorem gX5_state_X3_standing : GoodIn wsX5_state (wsV RX5 101 RX3 yX3_standing wsX3_standing) := goodIn_app (goodIn_of _ (by decide +kernel)) ggX5_state_X3_standing
theorem dX5_state_0 : decode cX5_state 0 = .ok (.aload_n 0, 1) := by decide +kernel
theorem dX5_state_1 : decode cX5_state 1 = .ok (.iload_n 1, 1) := by decide +kernel
theorem dX5_state_2 : decode cX5_state 2 = .ok (.invokevirtual 97, 3) := by decide +kernel
theorem dX5_state_5 : decode cX5_state 5 = .ok (.invokevirtual 101, 3) := by decide +kernel
theorem dX5_state_8 : decode cX5_state 8 = .ok (.ireturn, 1) := by decide +kernel
set_option maxRecDepth 20000 in
theorem ggX5_rating_X5_existingPlayer : GoodIn wsX5_rating wsX5_existingPlayer := goodIn_ca (goodIn_r _ [6, 7, 8, 9, 10, 11, 12, 13, 14, 15, 16, 17, 18, 19, 20, 21, 22, 23, 24, 25, 26, 27, 28, 29, 30, 31, 32, 33, 40, 41, 42, 43, 44, 45, 46, 47] (by decide +kernel) (by decide +kernel)) (goodIn_sub (fun _ h => List.mem_cons_of_mem _ (List.mem_append_right _ h)) (by decide +kernel))
set_option maxRecDepth 20000 in
theorem gX5_rating_X5_existingPlayer : GoodIn wsX5_rating (wsV RX5 97 RX5 yX5_existingPlayer wsX5_existingPlayer) := goodIn_app (goodIn_of _ (by decide +kernel)) ggX5_rating_X5_existingPlayer
theorem dX5_rating_0 : decode cX5_rating 0 = .ok (.aload_n 0, 1) := by decide +kernel
theorem dX5_rating_1 : decode cX5_rating 1 = .ok (.iload_n 1, 1) := by decide +kernel
theorem dX5_rating_2 : decode cX5_rating 2 = .ok (.invokevirtual 97, 3) := by decide +kernel
theorem dX5_rating_5 : decode cX5_rating 5 = .ok (.getfield 103, 3) := by decide +kernel
theorem dX5_rating_8 : decode cX5_rating 8 = .ok (.ireturn, 1) := by decide +kernel
set_option maxRecDepth 20000 in
theorem ggX5_uncertainty_X5_existingPlayer : GoodIn wsX5_uncertainty wsX5_existingPlayer := goodIn_ca (goodIn_r _ [6, 7, 8, 9, 10, 11, 12, 13, 14, 15, 16, 17, 18, 19, 20, 21, 22, 23, 24, 25, 26, 27, 28, 29, 30, 31, 32, 33, 40, 41, 42, 43, 44, 45, 46, 47] (by decide +kernel) (by decide +kernel)) (goodIn_sub (fun _ h => List.mem_cons_of_mem _ (List.mem_append_right _ h)) (by decide +kernel))
set_option maxRecDepth 20000 in
theorem gX5_uncertainty_X5_existingPlayer : GoodIn wsX5_uncertainty (wsV RX5 97 RX5 yX5_existingPlayer wsX5_existingPlayer) := goodIn_app (goodIn_of _ (by decide +kernel)) ggX5_uncertainty_X5_existingPlayer
theorem dX5_uncertainty_0 : decode cX5_uncertainty 0 = .ok (.aload_n 0, 1) := by decide +kernel
theorem dX5_uncertainty_1 : decode cX5_uncertainty 1 = .ok (.iload_n 1, 1) := by decide +kernel
theorem dX5_uncertainty_2 : decode cX5_uncertainty 2 = .ok (.invokevirtual 97, 3) := by decide +kernel
theorem dX5_uncertainty_5 : decode cX5_uncertainty 5 = .ok (.getfield 106, 3) := by decide +kernel
theorem dX5_uncertainty_8 : decode cX5_uncertainty 8 = .ok (.ireturn, 1) := by decide +kernel
set_option maxRecDepth 20000 in
theorem ggX5_level_X5_existingPlayer : GoodIn wsX5_level wsX5_existingPlayer := goodIn_ca (goodIn_r _ [6, 7, 8, 9, 10, 11, 12, 13, 14, 15, 16, 17, 18, 19, 20, 21, 22, 23, 24, 25, 26, 27, 28, 29, 30, 31, 32, 33, 40, 41, 42, 43, 44, 45, 46, 47] (by decide +kernel) (by decide +kernel)) (goodIn_sub (fun _ h => List.mem_cons_of_mem _ (List.mem_append_right _ h)) (by decide +kernel))
set_option maxRecDepth 20000 in
theorem gX5_level_X5_existingPlayer : GoodIn wsX5_level (wsV RX5 97 RX5 yX5_existingPlayer wsX5_existingPlayer) := goodIn_app (goodIn_of _ (by decide +kernel)) ggX5_level_X5_existingPlayer
theorem dX5_level_0 : decode cX5_level 0 = .ok (.aload_n 0, 1) := by decide +kernel
theorem dX5_level_1 : decode cX5_level 1 = .ok (.iload_n 1, 1) := by decide +kernel
theorem dX5_level_2 : decode cX5_level 2 = .ok (.invokevirtual 97, 3) := by decide +kernel
theorem dX5_level_5 : decode cX5_level 5 = .ok (.getfield 109, 3) := by decide +kernel
theorem dX5_level_8 : decode cX5_level 8 = .ok (.ireturn, 1) := by decide +kernel
set_option maxRecDepth 20000 in
theorem ggX5_barred_X5_existingPlayer : GoodIn wsX5_barred wsX5_existingPlayer := goodIn_ca (goodIn_r _ [11, 12, 13, 14, 15, 16, 17, 18, 19, 20, 21, 22, 23, 24, 25, 26, 27, 28, 29, 30, 31, 32, 33, 34, 35, 36, 37, 38, 45, 46, 47, 48, 49, 50, 51, 52] (by decide +kernel) (by decide +kernel)) (goodIn_sub (fun _ h => List.mem_cons_of_mem _ (List.mem_append_right _ h)) (by decide +kernel))
set_option maxRecDepth 20000 in
theorem gX5_barred_X5_existingPlayer : GoodIn wsX5_barred (wsV RX5 97 RX5 yX5_existingPlayer wsX5_existingPlayer) := goodIn_app (goodIn_of _ (by decide +kernel)) ggX5_barred_X5_existingPlayer
theorem dX5_barred_0 : decode cX5_barred 0 = .ok (.iconst 0, 1) := by decide +kernel
theorem dX5_barred_1 : decode cX5_barred 1 = .ok (.aload_n 0, 1) := by decide +kernel
theorem dX5_barred_2 : decode cX5_barred 2 = .ok (.iload_n 1, 1) := by decide +kernel
theorem dX5_barred_3 : decode cX5_barred 3 = .ok (.invokevirtual 97, 3) := by decide +kernel
theorem dX5_barred_6 : decode cX5_barred 6 = .ok (.getfield 112, 3) := by decide +kernel
theorem dX5_barred_9 : decode cX5_barred 9 = .ok (.aload_n 0, 1) := by decide +kernel
theorem dX5_barred_10 : decode cX5_barred 10 = .ok (.getfield 29, 3) := by decide +kernel
theorem dX5_barred_13 : decode cX5_barred 13 = .ok (.isub, 1) := by decide +kernel
theorem dX5_barred_14 : decode cX5_barred 14 = .ok (.invokestatic 115, 3) := by decide +kernel
theorem dX5_barred_17 : decode cX5_barred 17 = .ok (.ireturn, 1) := by decide +kernel
set_option maxRecDepth 20000 in
theorem ggX5_queued_Jx4a65c_size_8abf5 : GoodIn wsX5_queued wsJx4a65c_size_8abf5 := goodIn_r _ [8, 9, 37, 38, 39] (by decide +kernel) (by decide +kernel)
set_option maxRecDepth 20000 in
theorem gX5_queued_Jx4a65c_size_8abf5 : GoodIn wsX5_queued (wsV RX5 40 RJx4a65c yJx4a65c_size_8abf5 wsJx4a65c_size_8abf5) := goodIn_app (goodIn_of _ (by decide +kernel)) ggX5_queued_Jx4a65c_size_8abf5
set_option maxRecDepth 20000 in
theorem ggX5_queued_Jx4a65c_get_915e3 : GoodIn wsX5_queued wsJx4a65c_get_915e3 := goodIn_r _ [13, 9, 14, 15, 16, 17, 18, 19, 20, 21, 22, 23, 24, 7, 25, 26, 37, 38, 39] (by decide +kernel) (by decide +kernel)
set_option maxRecDepth 20000 in
theorem gX5_queued_Jx4a65c_get_915e3 : GoodIn wsX5_queued (wsV RX5 79 RJx4a65c yJx4a65c_get_915e3 wsJx4a65c_get_915e3) := goodIn_app (goodIn_of _ (by decide +kernel)) ggX5_queued_Jx4a65c_get_915e3
theorem dX5_queued_0 : decode cX5_queued 0 = .ok (.iconst 0, 1) := by decide +kernel
theorem dX5_queued_1 : decode cX5_queued 1 = .ok (.istore_n 1, 1) := by decide +kernel
theorem dX5_queued_2 : decode cX5_queued 2 = .ok (.iconst 0, 1) := by decide +kernel
theorem dX5_queued_3 : decode cX5_queued 3 = .ok (.istore_n 2, 1) := by decide +kernel
theorem dX5_queued_4 : decode cX5_queued 4 = .ok (.iload_n 2, 1) := by decide +kernel
theorem dX5_queued_5 : decode cX5_queued 5 = .ok (.aload_n 0, 1) := by decide +kernel
theorem dX5_queued_6 : decode cX5_queued 6 = .ok (.getfield 16, 3) := by decide +kernel
theorem dX5_queued_9 : decode cX5_queued 9 = .ok (.invokevirtual 40, 3) := by decide +kernel
theorem dX5_queued_12 : decode cX5_queued 12 = .ok (.if_icmp .ge 30, 3) := by decide +kernel
theorem dX5_queued_15 : decode cX5_queued 15 = .ok (.aload_n 0, 1) := by decide +kernel
theorem dX5_queued_16 : decode cX5_queued 16 = .ok (.getfield 16, 3) := by decide +kernel
theorem dX5_queued_19 : decode cX5_queued 19 = .ok (.iload_n 2, 1) := by decide +kernel
theorem dX5_queued_20 : decode cX5_queued 20 = .ok (.invokevirtual 79, 3) := by decide +kernel
theorem dX5_queued_23 : decode cX5_queued 23 = .ok (.checkcast 72, 3) := by decide +kernel
theorem dX5_queued_26 : decode cX5_queued 26 = .ok (.getfield 91, 3) := by decide +kernel
theorem dX5_queued_29 : decode cX5_queued 29 = .ok (.iconst 1, 1) := by decide +kernel
theorem dX5_queued_30 : decode cX5_queued 30 = .ok (.if_icmp .ne 6, 3) := by decide +kernel
theorem dX5_queued_33 : decode cX5_queued 33 = .ok (.iinc 1 1, 3) := by decide +kernel
theorem dX5_queued_36 : decode cX5_queued 36 = .ok (.iinc 2 1, 3) := by decide +kernel
theorem dX5_queued_39 : decode cX5_queued 39 = .ok (.goto (-35), 3) := by decide +kernel
theorem dX5_queued_42 : decode cX5_queued 42 = .ok (.iload_n 1, 1) := by decide +kernel
theorem dX5_queued_43 : decode cX5_queued 43 = .ok (.ireturn, 1) := by decide +kernel
set_option maxRecDepth 20000 in
theorem ggX5_window_X5_queuingParty : GoodIn wsX5_window wsX5_queuingParty := goodIn_ca (goodIn_ca (goodIn_r _ [6, 7, 8, 9, 10, 11, 12, 5, 13, 14, 15, 16, 17, 18, 19, 20, 21, 22, 23, 24, 25, 26, 27, 28, 29, 30, 31, 32, 33, 34, 35, 36, 37, 38, 39, 40, 52, 53, 54, 55, 56, 47, 48, 49, 50, 51, 57, 58, 59] (by decide +kernel) (by decide +kernel)) (goodIn_sub (fun _ h => List.mem_cons_of_mem _ (List.mem_append_left _ (List.mem_append_right _ h))) (by decide +kernel))) (goodIn_sub (fun _ h => List.mem_cons_of_mem _ (List.mem_append_right _ h)) (by decide +kernel))
set_option maxRecDepth 20000 in
theorem gX5_window_X5_queuingParty : GoodIn wsX5_window (wsV RX5 87 RX5 yX5_queuingParty wsX5_queuingParty) := goodIn_app (goodIn_of _ (by decide +kernel)) ggX5_window_X5_queuingParty
set_option maxRecDepth 20000 in
theorem ggX5_window_X2_windowAt : GoodIn wsX5_window wsX2_windowAt := goodIn_r _ [45, 46, 52, 53, 54, 55, 56] (by decide +kernel) (by decide +kernel)
set_option maxRecDepth 20000 in
theorem gX5_window_X2_windowAt : GoodIn wsX5_window (wsV RX5 121 RX2 yX2_windowAt wsX2_windowAt) := goodIn_app (goodIn_of _ (by decide +kernel)) ggX5_window_X2_windowAt
theorem dX5_window_0 : decode cX5_window 0 = .ok (.aload_n 0, 1) := by decide +kernel
theorem dX5_window_1 : decode cX5_window 1 = .ok (.iload_n 1, 1) := by decide +kernel
theorem dX5_window_2 : decode cX5_window 2 = .ok (.invokevirtual 87, 3) := by decide +kernel
theorem dX5_window_5 : decode cX5_window 5 = .ok (.aload_n 0, 1) := by decide +kernel
theorem dX5_window_6 : decode cX5_window 6 = .ok (.getfield 29, 3) := by decide +kernel
theorem dX5_window_9 : decode cX5_window 9 = .ok (.invokevirtual 121, 3) := by decide +kernel
theorem dX5_window_12 : decode cX5_window 12 = .ok (.ireturn, 1) := by decide +kernel
set_option maxRecDepth 20000 in
theorem ggX5_fit_X5_existingParty : GoodIn wsX5_fit wsX5_existingParty := goodIn_ca (goodIn_r _ [6, 7, 8, 9, 10, 11, 12, 13, 14, 15, 16, 17, 18, 19, 20, 21, 22, 23, 24, 25, 26, 27, 28, 29, 30, 31, 32, 33, 68, 69, 70, 71, 72, 73, 74, 75] (by decide +kernel) (by decide +kernel)) (goodIn_sub (fun _ h => List.mem_cons_of_mem _ (List.mem_append_left _ (List.mem_append_right _ h))) (by decide +kernel))
set_option maxRecDepth 20000 in
theorem gX5_fit_X5_existingParty : GoodIn wsX5_fit (wsV RX5 124 RX5 yX5_existingParty wsX5_existingParty) := goodIn_app (goodIn_of _ (by decide +kernel)) ggX5_fit_X5_existingParty
set_option maxRecDepth 20000 in
theorem ggX5_fit_X5_queuingParty : GoodIn wsX5_fit wsX5_queuingParty := goodIn_ca (goodIn_ca (goodIn_r _ [37, 38, 39, 40, 2, 3, 4, 5, 6, 7, 8, 9, 10, 11, 12, 13, 14, 15, 16, 17, 18, 19, 20, 21, 22, 23, 24, 25, 26, 27, 28, 29, 30, 31, 32, 33, 76, 77, 78, 79, 80, 68, 69, 70, 71, 72, 73, 74, 75] (by decide +kernel) (by decide +kernel)) (goodIn_sub (fun _ h => List.mem_cons_of_mem _ (List.mem_append_right _ h)) (by decide +kernel))) (goodIn_sub (fun _ h => List.mem_cons_of_mem _ (List.mem_append_left _ (List.mem_append_right _ h))) (by decide +kernel))
set_option maxRecDepth 20000 in
theorem gX5_fit_X5_queuingParty : GoodIn wsX5_fit (wsV RX5 87 RX5 yX5_queuingParty wsX5_queuingParty) := goodIn_app (goodIn_of _ (by decide +kernel)) ggX5_fit_X5_queuingParty
set_option maxRecDepth 20000 in
theorem ggX5_fit_X2_fitsAt : GoodIn wsX5_fit wsX2_fitsAt := goodIn_r _ [45, 46, 47, 48, 49, 50, 51, 52, 44, 53, 54, 55, 12, 13, 14, 15, 16, 56, 57, 58, 59, 60, 61, 62, 18, 19, 20, 21, 22, 23, 24, 25, 26, 27, 28, 29, 30, 31, 32, 33, 63, 64, 65, 66, 67, 76, 77, 78, 79, 80, 73, 74, 75, 81, 82, 83, 84, 85, 86] (by decide +kernel) (by decide +kernel)
set_option maxRecDepth 20000 in
theorem gX5_fit_X2_fitsAt : GoodIn wsX5_fit (wsV RX5 127 RX2 yX2_fitsAt wsX2_fitsAt) := goodIn_app (goodIn_of _ (by decide +kernel)) ggX5_fit_X2_fitsAt
theorem dX5_fit_0 : decode cX5_fit 0 = .ok (.aload_n 0, 1) := by decide +kernel
theorem dX5_fit_1 : decode cX5_fit 1 = .ok (.iload_n 2, 1) := by decide +kernel
theorem dX5_fit_2 : decode cX5_fit 2 = .ok (.invokevirtual 124, 3) := by decide +kernel
theorem dX5_fit_5 : decode cX5_fit 5 = .ok (.pop, 1) := by decide +kernel
theorem dX5_fit_6 : decode cX5_fit 6 = .ok (.aload_n 0, 1) := by decide +kernel
theorem dX5_fit_7 : decode cX5_fit 7 = .ok (.iload_n 1, 1) := by decide +kernel
theorem dX5_fit_8 : decode cX5_fit 8 = .ok (.invokevirtual 87, 3) := by decide +kernel
theorem dX5_fit_11 : decode cX5_fit 11 = .ok (.astore_n 3, 1) := by decide +kernel
theorem dX5_fit_12 : decode cX5_fit 12 = .ok (.aload_n 3, 1) := by decide +kernel
theorem dX5_fit_13 : decode cX5_fit 13 = .ok (.aload_n 0, 1) := by decide +kernel
theorem dX5_fit_14 : decode cX5_fit 14 = .ok (.getfield 29, 3) := by decide +kernel
theorem dX5_fit_17 : decode cX5_fit 17 = .ok (.aload_n 0, 1) := by decide +kernel
theorem dX5_fit_18 : decode cX5_fit 18 = .ok (.iload_n 2, 1) := by decide +kernel
theorem dX5_fit_19 : decode cX5_fit 19 = .ok (.invokevirtual 87, 3) := by decide +kernel
theorem dX5_fit_22 : decode cX5_fit 22 = .ok (.invokevirtual 127, 3) := by decide +kernel
theorem dX5_fit_25 : decode cX5_fit 25 = .ok (.ireturn, 1) := by decide +kernel
set_option maxRecDepth 20000 in
theorem ggX5_make_Jx4a65c_size_8abf5 : GoodIn wsX5_make wsJx4a65c_size_8abf5 := goodIn_r _ [11, 12, 233, 234, 235] (by decide +kernel) (by decide +kernel)
set_option maxRecDepth 20000 in
theorem gX5_make_Jx4a65c_size_8abf5 : GoodIn wsX5_make (wsV RX5 40 RJx4a65c yJx4a65c_size_8abf5 wsJx4a65c_size_8abf5) := goodIn_app (goodIn_of _ (by decide +kernel)) ggX5_make_Jx4a65c_size_8abf5
set_option maxRecDepth 20000 in
theorem ggX5_make_Jx4a65c_get_915e3 : GoodIn wsX5_make wsJx4a65c_get_915e3 := goodIn_r _ [16, 12, 17, 18, 19, 20, 21, 22, 23, 24, 25, 26, 27, 10, 28, 29, 233, 234, 235] (by decide +kernel) (by decide +kernel)
set_option maxRecDepth 20000 in
theorem gX5_make_Jx4a65c_get_915e3 : GoodIn wsX5_make (wsV RX5 79 RJx4a65c yJx4a65c_get_915e3 wsJx4a65c_get_915e3) := goodIn_app (goodIn_of _ (by decide +kernel)) ggX5_make_Jx4a65c_get_915e3
set_option maxRecDepth 20000 in
theorem ggX5_make_X5_gatherCandidates : GoodIn wsX5_make wsX5_gatherCandidates := goodIn_r _ [34, 4, 35, 36, 37, 38, 39, 1, 2, 3, 6, 40, 41, 42, 10, 43, 44, 45, 29, 12, 7, 8, 9, 11, 13, 14, 15, 16, 17, 18, 19, 20, 21, 22, 23, 24, 25, 26, 27, 28, 46, 47, 48, 49, 50, 51, 52, 53, 54, 55, 56, 57, 58, 59, 60, 61, 62, 63, 64, 65, 66, 67, 68, 69, 70, 71, 72, 73, 74, 75, 76, 77, 78, 79, 80, 81, 82, 83, 84, 85, 86, 87, 88, 89, 90, 91, 92, 93, 94, 95, 96, 97, 98, 99, 100, 101, 102, 103, 104, 105, 106, 107, 108, 109, 110, 111, 112, 113, 114, 115, 116, 117, 118, 119, 223, 224, 225, 226, 227, 236, 237, 238, 239, 240, 228, 229, 230, 231, 232, 233, 234, 235, 241, 242, 243, 244, 245, 246] (by decide +kernel) (by decide +kernel)
set_option maxRecDepth 20000 in
theorem gX5_make_X5_gatherCandidates : GoodIn wsX5_make (wsV RX5 131 RX5 yX5_gatherCandidates wsX5_gatherCandidates) := goodIn_app (goodIn_of _ (by decide +kernel)) ggX5_make_X5_gatherCandidates
set_option maxRecDepth 20000 in
theorem ggX5_make_X0_findSet : GoodIn wsX5_make wsX0_findSet := goodIn_r _ [124, 125, 126, 41, 42, 10, 43, 44, 45, 29, 12, 127, 128, 123, 129, 130, 131, 132, 133, 134, 8, 9, 11, 135, 14, 15, 16, 17, 18, 19, 20, 21, 22, 23, 24, 25, 26, 27, 28, 136, 137, 138, 139, 140, 141, 142, 143, 144, 145, 146, 147, 73, 74, 75, 76, 77, 78, 79, 80, 81, 82, 83, 84, 85, 86, 87, 88, 89, 37, 38, 39, 90, 91, 92, 93, 94, 95, 96, 97, 98, 99, 100, 101, 102, 103, 104, 105, 106, 107, 108, 109, 110, 111, 112, 113, 114, 115, 116, 117, 118, 119, 148, 149, 150, 151, 152, 153, 154, 155, 156, 157, 158, 52, 53, 159, 160, 161, 61, 62, 49, 63, 58, 64, 65, 59, 66, 162, 163, 164, 165, 166, 167, 168, 169, 170, 171, 172, 173, 174, 175, 176, 177, 178, 179, 180, 181, 236, 237, 238, 239, 240, 233, 234, 235, 228, 229, 230, 231, 232, 241, 242, 243, 244, 245, 246] (by decide +kernel) (by decide +kernel)
set_option maxRecDepth 20000 in
theorem gX5_make_X0_findSet : GoodIn wsX5_make (wsV RX5 135 RX0 yX0_findSet wsX0_findSet) := goodIn_app (goodIn_of _ (by decide +kernel)) ggX5_make_X0_findSet
set_option maxRecDepth 20000 in
theorem ggX5_make_X0_newMatch : GoodIn wsX5_make wsX0_newMatch := goodIn_r _ [185, 186, 187, 188, 159, 160, 152, 125, 131, 189, 190, 191, 192, 193, 194, 195, 196, 197, 198, 199, 200, 10, 201, 202, 203, 204, 205, 206, 88, 29, 207, 208, 209, 210, 211, 212, 213, 214, 215, 216, 134, 8, 9, 11, 12, 135, 14, 15, 16, 17, 18, 19, 20, 21, 22, 23, 24, 25, 26, 27, 28, 217, 218, 219, 220, 221, 222, 73, 74, 75, 44, 45, 76, 77, 78, 79, 80, 81, 82, 83, 84, 85, 86, 87, 89, 37, 38, 39, 90, 91, 92, 93, 94, 95, 96, 97, 98, 99, 100, 101, 102, 103, 104, 105, 106, 107, 108, 109, 110, 111, 112, 113, 114, 115, 116, 117, 118, 119, 247, 248, 249, 250, 251, 252, 253, 236, 237, 238, 239, 240, 233, 234, 235, 228, 229, 230, 231, 232] (by decide +kernel) (by decide +kernel)
set_option maxRecDepth 20000 in
theorem gX5_make_X0_newMatch : GoodIn wsX5_make (wsV RX5 139 RX0 yX0_newMatch wsX0_newMatch) := goodIn_app (goodIn_of _ (by decide +kernel)) ggX5_make_X0_newMatch
set_option maxRecDepth 20000 in
theorem ggX5_make_Jx4a65c_add_9ea2d : GoodIn wsX5_make wsJx4a65c_add_9ea2d := goodIn_r _ [75, 44, 45, 29, 12, 76, 77, 78, 10, 79, 80, 81, 82, 83, 84, 85, 86, 87, 88, 89, 37, 38, 39, 90, 91, 92, 93, 94, 95, 96, 97, 98, 99, 100, 101, 102, 103, 104, 105, 106, 107, 108, 109, 110, 111, 112, 113, 114, 115, 116, 117, 118, 119, 233, 234, 235] (by decide +kernel) (by decide +kernel)
set_option maxRecDepth 20000 in
theorem gX5_make_Jx4a65c_add_9ea2d : GoodIn wsX5_make (wsV RX5 54 RJx4a65c yJx4a65c_add_9ea2d wsJx4a65c_add_9ea2d) := goodIn_app (goodIn_of _ (by decide +kernel)) ggX5_make_Jx4a65c_add_9ea2d
theorem dX5_make_0 : decode cX5_make 0 = .ok (.iconst 0, 1) := by decide +kernel
theorem dX5_make_1 : decode cX5_make 1 = .ok (.istore_n 1, 1) := by decide +kernel
theorem dX5_make_2 : decode cX5_make 2 = .ok (.iload_n 1, 1) := by decide +kernel
theorem dX5_make_3 : decode cX5_make 3 = .ok (.aload_n 0, 1) := by decide +kernel
theorem dX5_make_4 : decode cX5_make 4 = .ok (.getfield 16, 3) := by decide +kernel
theorem dX5_make_7 : decode cX5_make 7 = .ok (.invokevirtual 40, 3) := by decide +kernel
theorem dX5_make_10 : decode cX5_make 10 = .ok (.if_icmp .ge 82, 3) := by decide +kernel
theorem dX5_make_13 : decode cX5_make 13 = .ok (.aload_n 0, 1) := by decide +kernel
theorem dX5_make_14 : decode cX5_make 14 = .ok (.getfield 16, 3) := by decide +kernel
theorem dX5_make_17 : decode cX5_make 17 = .ok (.iload_n 1, 1) := by decide +kernel
theorem dX5_make_18 : decode cX5_make 18 = .ok (.invokevirtual 79, 3) := by decide +kernel
theorem dX5_make_21 : decode cX5_make 21 = .ok (.checkcast 72, 3) := by decide +kernel
theorem dX5_make_24 : decode cX5_make 24 = .ok (.getfield 91, 3) := by decide +kernel
theorem dX5_make_27 : decode cX5_make 27 = .ok (.iconst 1, 1) := by decide +kernel
theorem dX5_make_28 : decode cX5_make 28 = .ok (.if_icmp .ne 58, 3) := by decide +kernel
theorem dX5_make_31 : decode cX5_make 31 = .ok (.aload_n 0, 1) := by decide +kernel
theorem dX5_make_32 : decode cX5_make 32 = .ok (.aload_n 0, 1) := by decide +kernel
theorem dX5_make_33 : decode cX5_make 33 = .ok (.getfield 16, 3) := by decide +kernel
theorem dX5_make_36 : decode cX5_make 36 = .ok (.iload_n 1, 1) := by decide +kernel
theorem dX5_make_37 : decode cX5_make 37 = .ok (.invokevirtual 79, 3) := by decide +kernel
theorem dX5_make_40 : decode cX5_make 40 = .ok (.checkcast 72, 3) := by decide +kernel
theorem dX5_make_43 : decode cX5_make 43 = .ok (.iload_n 1, 1) := by decide +kernel
theorem dX5_make_44 : decode cX5_make 44 = .ok (.invokevirtual 131, 3) := by decide +kernel
theorem dX5_make_47 : decode cX5_make 47 = .ok (.aload_n 0, 1) := by decide +kernel
theorem dX5_make_48 : decode cX5_make 48 = .ok (.getfield 25, 3) := by decide +kernel
theorem dX5_make_51 : decode cX5_make 51 = .ok (.invokevirtual 135, 3) := by decide +kernel
theorem dX5_make_54 : decode cX5_make 54 = .ok (.ifCond .eq 32, 3) := by decide +kernel
theorem dX5_make_57 : decode cX5_make 57 = .ok (.aload_n 0, 1) := by decide +kernel
theorem dX5_make_58 : decode cX5_make 58 = .ok (.getfield 19, 3) := by decide +kernel
theorem dX5_make_61 : decode cX5_make 61 = .ok (.aload_n 0, 1) := by decide +kernel
theorem dX5_make_62 : decode cX5_make 62 = .ok (.getfield 25, 3) := by decide +kernel
theorem dX5_make_65 : decode cX5_make 65 = .ok (.aload_n 0, 1) := by decide +kernel
theorem dX5_make_66 : decode cX5_make 66 = .ok (.getfield 29, 3) := by decide +kernel
theorem dX5_make_69 : decode cX5_make 69 = .ok (.invokevirtual 139, 3) := by decide +kernel
theorem dX5_make_72 : decode cX5_make 72 = .ok (.invokevirtual 54, 3) := by decide +kernel
theorem dX5_make_75 : decode cX5_make 75 = .ok (.pop, 1) := by decide +kernel
theorem dX5_make_76 : decode cX5_make 76 = .ok (.aload_n 0, 1) := by decide +kernel
theorem dX5_make_77 : decode cX5_make 77 = .ok (.getfield 19, 3) := by decide +kernel
theorem dX5_make_80 : decode cX5_make 80 = .ok (.invokevirtual 40, 3) := by decide +kernel
theorem dX5_make_83 : decode cX5_make 83 = .ok (.iconst 1, 1) := by decide +kernel
theorem dX5_make_84 : decode cX5_make 84 = .ok (.isub, 1) := by decide +kernel
theorem dX5_make_85 : decode cX5_make 85 = .ok (.ireturn, 1) := by decide +kernel
theorem dX5_make_86 : decode cX5_make 86 = .ok (.iinc 1 1, 3) := by decide +kernel
theorem dX5_make_89 : decode cX5_make 89 = .ok (.goto (-87), 3) := by decide +kernel
theorem dX5_make_92 : decode cX5_make 92 = .ok (.iconst (-1), 1) := by decide +kernel
theorem dX5_make_93 : decode cX5_make 93 = .ok (.ireturn, 1) := by decide +kernel
set_option maxRecDepth 20000 in
theorem ggX5_accept_X5_matchThatAwaits : GoodIn wsX5_accept wsX5_matchThatAwaits := goodIn_ca (goodIn_ca (goodIn_r _ [6, 7, 8, 9, 10, 11, 5, 12, 13, 14, 15, 16, 17, 18, 19, 20, 21, 22, 23, 24, 25, 26, 27, 28, 29, 30, 31, 32, 33, 34, 35, 36, 37, 38, 39, 40, 41, 42, 43, 44, 45, 46, 47, 48, 49, 50, 51, 52, 53, 54, 66, 67, 68, 69, 70, 71, 72, 73, 59, 60, 61, 62, 63, 64, 65] (by decide +kernel) (by decide +kernel)) (goodIn_sub (fun _ h => List.mem_cons_of_mem _ (List.mem_append_left _ (List.mem_append_right _ h))) (by decide +kernel))) (goodIn_sub (fun _ h => List.mem_cons_of_mem _ (List.mem_append_right _ h)) (by decide +kernel))
set_option maxRecDepth 20000 in
theorem gX5_accept_X5_matchThatAwaits : GoodIn wsX5_accept (wsV RX5 143 RX5 yX5_matchThatAwaits wsX5_matchThatAwaits) := goodIn_app (goodIn_of _ (by decide +kernel)) ggX5_accept_X5_matchThatAwaits
set_option maxRecDepth 20000 in
theorem ggX5_accept_X1_takeAnswer : GoodIn wsX5_accept wsX1_takeAnswer := goodIn_r _ [58, 52, 51, 59, 60, 61, 62, 63, 64, 65] (by decide +kernel) (by decide +kernel)
set_option maxRecDepth 20000 in
theorem gX5_accept_X1_takeAnswer : GoodIn wsX5_accept (wsV RX5 147 RX1 yX1_takeAnswer wsX1_takeAnswer) := goodIn_app (goodIn_of _ (by decide +kernel)) ggX5_accept_X1_takeAnswer
theorem dX5_accept_0 : decode cX5_accept 0 = .ok (.aload_n 0, 1) := by decide +kernel
theorem dX5_accept_1 : decode cX5_accept 1 = .ok (.iload_n 1, 1) := by decide +kernel
theorem dX5_accept_2 : decode cX5_accept 2 = .ok (.iload_n 2, 1) := by decide +kernel
theorem dX5_accept_3 : decode cX5_accept 3 = .ok (.invokevirtual 143, 3) := by decide +kernel
theorem dX5_accept_6 : decode cX5_accept 6 = .ok (.astore_n 3, 1) := by decide +kernel
theorem dX5_accept_7 : decode cX5_accept 7 = .ok (.aload_n 3, 1) := by decide +kernel
theorem dX5_accept_8 : decode cX5_accept 8 = .ok (.iload_n 2, 1) := by decide +kernel
theorem dX5_accept_9 : decode cX5_accept 9 = .ok (.invokevirtual 147, 3) := by decide +kernel
theorem dX5_accept_12 : decode cX5_accept 12 = .ok (.aload_n 3, 1) := by decide +kernel
theorem dX5_accept_13 : decode cX5_accept 13 = .ok (.getfield 153, 3) := by decide +kernel
theorem dX5_accept_16 : decode cX5_accept 16 = .ok (.iconst 1, 1) := by decide +kernel
theorem dX5_accept_17 : decode cX5_accept 17 = .ok (.if_icmp .ne 7, 3) := by decide +kernel
theorem dX5_accept_20 : decode cX5_accept 20 = .ok (.iconst 1, 1) := by decide +kernel
theorem dX5_accept_21 : decode cX5_accept 21 = .ok (.goto 4, 3) := by decide +kernel
theorem dX5_accept_24 : decode cX5_accept 24 = .ok (.iconst 0, 1) := by decide +kernel
theorem dX5_accept_25 : decode cX5_accept 25 = .ok (.ireturn, 1) := by decide +kernel
set_option maxRecDepth 20000 in
theorem ggX5_decline_X5_matchThatAwaits : GoodIn wsX5_decline wsX5_matchThatAwaits := goodIn_ca (goodIn_ca (goodIn_r _ [6, 7, 8, 9, 10, 11, 5, 12, 13, 14, 15, 16, 17, 18, 19, 20, 21, 22, 23, 24, 25, 26, 27, 28, 29, 30, 31, 32, 33, 34, 35, 36, 37, 38, 39, 40, 41, 42, 43, 44, 45, 46, 47, 48, 49, 50, 51, 52, 53, 54, 81, 82, 83, 84, 85, 86, 87, 88, 89, 90, 91, 92, 93, 94, 95] (by decide +kernel) (by decide +kernel)) (goodIn_sub (fun _ h => List.mem_cons_of_mem _ (List.mem_append_left _ (List.mem_append_right _ h))) (by decide +kernel))) (goodIn_sub (fun _ h => List.mem_cons_of_mem _ (List.mem_append_right _ h)) (by decide +kernel))
set_option maxRecDepth 20000 in
theorem gX5_decline_X5_matchThatAwaits : GoodIn wsX5_decline (wsV RX5 143 RX5 yX5_matchThatAwaits wsX5_matchThatAwaits) := goodIn_app (goodIn_of _ (by decide +kernel)) ggX5_decline_X5_matchThatAwaits
set_option maxRecDepth 20000 in
theorem ggX5_decline_X5_existingPlayer : GoodIn wsX5_decline wsX5_existingPlayer := goodIn_ca (goodIn_r _ [43, 13, 14, 44, 45, 17, 18, 19, 20, 21, 22, 23, 24, 25, 26, 27, 28, 29, 30, 31, 32, 33, 34, 35, 36, 37, 38, 39, 81, 82, 83, 84, 85, 86, 87, 88] (by decide +kernel) (by decide +kernel)) (goodIn_sub (fun _ h => List.mem_cons_of_mem _ (List.mem_append_right _ h)) (by decide +kernel))
set_option maxRecDepth 20000 in
theorem gX5_decline_X5_existingPlayer : GoodIn wsX5_decline (wsV RX5 97 RX5 yX5_existingPlayer wsX5_existingPlayer) := goodIn_app (goodIn_of _ (by decide +kernel)) ggX5_decline_X5_existingPlayer
set_option maxRecDepth 20000 in
theorem ggX5_decline_X1_callOff : GoodIn wsX5_decline wsX1_callOff := goodIn_r _ [58, 51, 59, 60, 61, 49, 62, 63, 64, 65, 66, 18, 19, 20, 21, 22, 67, 24, 25, 26, 27, 28, 29, 30, 31, 32, 33, 34, 35, 36, 37, 38, 39, 89, 90, 91, 92, 93, 94, 95, 96, 97, 98, 99, 100, 86, 87, 88] (by decide +kernel) (by decide +kernel)
set_option maxRecDepth 20000 in
theorem gX5_decline_X1_callOff : GoodIn wsX5_decline (wsV RX5 156 RX1 yX1_callOff wsX1_callOff) := goodIn_app (goodIn_of _ (by decide +kernel)) ggX5_decline_X1_callOff
set_option maxRecDepth 20000 in
theorem ggX5_decline_X3_penaliseAt : GoodIn wsX5_decline wsX3_penaliseAt := goodIn_r _ [72, 73, 74, 75, 76, 77, 78, 79, 80, 101, 102, 103, 104, 105, 106, 96, 97, 98, 99, 100] (by decide +kernel) (by decide +kernel)
set_option maxRecDepth 20000 in
theorem gX5_decline_X3_penaliseAt : GoodIn wsX5_decline (wsV RX5 159 RX3 yX3_penaliseAt wsX3_penaliseAt) := goodIn_app (goodIn_of _ (by decide +kernel)) ggX5_decline_X3_penaliseAt
theorem dX5_decline_0 : decode cX5_decline 0 = .ok (.aload_n 0, 1) := by decide +kernel
theorem dX5_decline_1 : decode cX5_decline 1 = .ok (.iload_n 1, 1) := by decide +kernel
theorem dX5_decline_2 : decode cX5_decline 2 = .ok (.iload_n 2, 1) := by decide +kernel
theorem dX5_decline_3 : decode cX5_decline 3 = .ok (.invokevirtual 143, 3) := by decide +kernel
theorem dX5_decline_6 : decode cX5_decline 6 = .ok (.astore_n 3, 1) := by decide +kernel
theorem dX5_decline_7 : decode cX5_decline 7 = .ok (.aload_n 0, 1) := by decide +kernel
theorem dX5_decline_8 : decode cX5_decline 8 = .ok (.iload_n 2, 1) := by decide +kernel
theorem dX5_decline_9 : decode cX5_decline 9 = .ok (.invokevirtual 97, 3) := by decide +kernel
theorem dX5_decline_12 : decode cX5_decline 12 = .ok (.astore 4, 2) := by decide +kernel
theorem dX5_decline_14 : decode cX5_decline 14 = .ok (.aload_n 3, 1) := by decide +kernel
theorem dX5_decline_15 : decode cX5_decline 15 = .ok (.invokevirtual 156, 3) := by decide +kernel
theorem dX5_decline_18 : decode cX5_decline 18 = .ok (.aload 4, 2) := by decide +kernel
theorem dX5_decline_20 : decode cX5_decline 20 = .ok (.aload_n 0, 1) := by decide +kernel
theorem dX5_decline_21 : decode cX5_decline 21 = .ok (.getfield 29, 3) := by decide +kernel
theorem dX5_decline_24 : decode cX5_decline 24 = .ok (.invokevirtual 159, 3) := by decide +kernel
theorem dX5_decline_27 : decode cX5_decline 27 = .ok (.ireturn, 1) := by decide +kernel
set_option maxRecDepth 20000 in
theorem ggX5_finish_X5_existingMatch : GoodIn wsX5_finish wsX5_existingMatch := goodIn_ca (goodIn_r _ [10, 11, 12, 13, 14, 15, 16, 17, 18, 19, 20, 21, 22, 23, 24, 25, 26, 27, 28, 29, 30, 31, 32, 33, 34, 35, 36, 37, 104, 105, 106, 107, 108, 109, 110, 111] (by decide +kernel) (by decide +kernel)) (goodIn_sub (fun _ h => List.mem_cons_of_mem _ (List.mem_append_left _ (List.mem_append_right _ h))) (by decide +kernel))
set_option maxRecDepth 20000 in
theorem gX5_finish_X5_existingMatch : GoodIn wsX5_finish (wsV RX5 162 RX5 yX5_existingMatch wsX5_existingMatch) := goodIn_app (goodIn_of _ (by decide +kernel)) ggX5_finish_X5_existingMatch
set_option maxRecDepth 20000 in
theorem ggX5_finish_X5_checkTeam : GoodIn wsX5_finish wsX5_checkTeam := goodIn_ca (goodIn_r _ [40, 41, 42] (by decide +kernel) (by decide +kernel)) (goodIn_sub (fun _ h => List.mem_cons_of_mem _ (List.mem_append_right _ h)) (by decide +kernel))
set_option maxRecDepth 20000 in
theorem gX5_finish_X5_checkTeam : GoodIn wsX5_finish (va_wsS RX5 165 yX5_checkTeam wsX5_checkTeam) := goodIn_app (goodIn_of _ (by decide +kernel)) ggX5_finish_X5_checkTeam
set_option maxRecDepth 20000 in
theorem ggX5_finish_X5_expectedShare : GoodIn wsX5_finish wsX5_expectedShare := goodIn_r _ [46, 47, 48, 49, 50, 51, 52, 53, 54, 55, 56, 9, 57, 58, 59, 60, 15, 16, 17, 18, 19, 20, 61, 62, 63, 21, 22, 23, 24, 25, 26, 27, 28, 29, 30, 31, 32, 33, 34, 35, 36, 37, 104, 105, 106, 107, 108, 112, 113, 114, 115, 116, 117, 109, 110, 111] (by decide +kernel) (by decide +kernel)
set_option maxRecDepth 20000 in
theorem gX5_finish_X5_expectedShare : GoodIn wsX5_finish (wsV RX5 176 RX5 yX5_expectedShare wsX5_expectedShare) := goodIn_app (goodIn_of _ (by decide +kernel)) ggX5_finish_X5_expectedShare
set_option maxRecDepth 20000 in
theorem ggX5_finish_X5_learn : GoodIn wsX5_finish wsX5_learn := goodIn_r _ [67, 58, 59, 15, 16, 17, 18, 19, 20, 61, 62, 9, 63, 21, 22, 23, 24, 25, 26, 27, 28, 29, 30, 31, 32, 33, 34, 35, 36, 37, 68, 69, 70, 71, 72, 73, 74, 75, 48, 49, 50, 76, 52, 53, 77, 78, 79, 80, 81, 104, 105, 106, 107, 108, 109, 110, 111, 112, 113, 114, 115, 116, 117] (by decide +kernel) (by decide +kernel)
set_option maxRecDepth 20000 in
theorem gX5_finish_X5_learn : GoodIn wsX5_finish (wsV RX5 179 RX5 yX5_learn wsX5_learn) := goodIn_app (goodIn_of _ (by decide +kernel)) ggX5_finish_X5_learn
set_option maxRecDepth 20000 in
theorem ggX5_finish_X1_end : GoodIn wsX5_finish wsX1_end := goodIn_r _ [86, 87, 88, 89, 90, 85, 91, 92, 93, 94, 95, 16, 17, 18, 19, 20, 96, 22, 23, 24, 25, 26, 27, 28, 29, 30, 31, 32, 33, 34, 35, 36, 37, 97, 98, 99, 100, 101, 102, 103, 118, 119, 120, 121, 122, 109, 110, 111] (by decide +kernel) (by decide +kernel)
set_option maxRecDepth 20000 in
theorem gX5_finish_X1_end : GoodIn wsX5_finish (wsV RX5 182 RX1 yX1_end wsX1_end) := goodIn_app (goodIn_of _ (by decide +kernel)) ggX5_finish_X1_end
theorem dX5_finish_0 : decode cX5_finish 0 = .ok (.aload_n 0, 1) := by decide +kernel
theorem dX5_finish_1 : decode cX5_finish 1 = .ok (.iload_n 1, 1) := by decide +kernel
theorem dX5_finish_2 : decode cX5_finish 2 = .ok (.invokevirtual 162, 3) := by decide +kernel
theorem dX5_finish_5 : decode cX5_finish 5 = .ok (.astore_n 3, 1) := by decide +kernel
theorem dX5_finish_6 : decode cX5_finish 6 = .ok (.iload_n 2, 1) := by decide +kernel
theorem dX5_finish_7 : decode cX5_finish 7 = .ok (.invokestatic 165, 3) := by decide +kernel
theorem dX5_finish_10 : decode cX5_finish 10 = .ok (.aload_n 3, 1) := by decide +kernel
theorem dX5_finish_11 : decode cX5_finish 11 = .ok (.getfield 153, 3) := by decide +kernel
theorem dX5_finish_14 : decode cX5_finish 14 = .ok (.iconst 1, 1) := by decide +kernel
theorem dX5_finish_15 : decode cX5_finish 15 = .ok (.if_icmp .eq 13, 3) := by decide +kernel
theorem dX5_finish_18 : decode cX5_finish 18 = .ok (.new 44, 3) := by decide +kernel
theorem dX5_finish_21 : decode cX5_finish 21 = .ok (.dup, 1) := by decide +kernel
theorem dX5_finish_22 : decode cX5_finish 22 = .ok (.ldc 168, 2) := by decide +kernel
theorem dX5_finish_24 : decode cX5_finish 24 = .ok (.invokespecial 48, 3) := by decide +kernel
theorem dX5_finish_27 : decode cX5_finish 27 = .ok (.athrow, 1) := by decide +kernel
theorem dX5_finish_28 : decode cX5_finish 28 = .ok (.aload_n 0, 1) := by decide +kernel
theorem dX5_finish_29 : decode cX5_finish 29 = .ok (.aload_n 3, 1) := by decide +kernel
theorem dX5_finish_30 : decode cX5_finish 30 = .ok (.getfield 170, 3) := by decide +kernel
theorem dX5_finish_33 : decode cX5_finish 33 = .ok (.aload_n 3, 1) := by decide +kernel
theorem dX5_finish_34 : decode cX5_finish 34 = .ok (.getfield 173, 3) := by decide +kernel
theorem dX5_finish_37 : decode cX5_finish 37 = .ok (.invokevirtual 176, 3) := by decide +kernel
theorem dX5_finish_40 : decode cX5_finish 40 = .ok (.istore 4, 2) := by decide +kernel
theorem dX5_finish_42 : decode cX5_finish 42 = .ok (.iload_n 2, 1) := by decide +kernel
theorem dX5_finish_43 : decode cX5_finish 43 = .ok (.ifCond .ne 9, 3) := by decide +kernel
theorem dX5_finish_46 : decode cX5_finish 46 = .ok (.sipush 1000, 3) := by decide +kernel
theorem dX5_finish_49 : decode cX5_finish 49 = .ok (.goto 4, 3) := by decide +kernel
theorem dX5_finish_52 : decode cX5_finish 52 = .ok (.iconst 0, 1) := by decide +kernel
theorem dX5_finish_53 : decode cX5_finish 53 = .ok (.iload 4, 2) := by decide +kernel
theorem dX5_finish_55 : decode cX5_finish 55 = .ok (.isub, 1) := by decide +kernel
theorem dX5_finish_56 : decode cX5_finish 56 = .ok (.istore 5, 2) := by decide +kernel
theorem dX5_finish_58 : decode cX5_finish 58 = .ok (.aload_n 0, 1) := by decide +kernel
theorem dX5_finish_59 : decode cX5_finish 59 = .ok (.aload_n 3, 1) := by decide +kernel
theorem dX5_finish_60 : decode cX5_finish 60 = .ok (.getfield 170, 3) := by decide +kernel
theorem dX5_finish_63 : decode cX5_finish 63 = .ok (.iload 5, 2) := by decide +kernel
theorem dX5_finish_65 : decode cX5_finish 65 = .ok (.invokevirtual 179, 3) := by decide +kernel
theorem dX5_finish_68 : decode cX5_finish 68 = .ok (.aload_n 0, 1) := by decide +kernel
theorem dX5_finish_69 : decode cX5_finish 69 = .ok (.aload_n 3, 1) := by decide +kernel
theorem dX5_finish_70 : decode cX5_finish 70 = .ok (.getfield 173, 3) := by decide +kernel
theorem dX5_finish_73 : decode cX5_finish 73 = .ok (.iload 5, 2) := by decide +kernel
theorem dX5_finish_75 : decode cX5_finish 75 = .ok (.ineg, 1) := by decide +kernel
theorem dX5_finish_76 : decode cX5_finish 76 = .ok (.invokevirtual 179, 3) := by decide +kernel
theorem dX5_finish_79 : decode cX5_finish 79 = .ok (.aload_n 3, 1) := by decide +kernel
theorem dX5_finish_80 : decode cX5_finish 80 = .ok (.invokevirtual 182, 3) := by decide +kernel
theorem dX5_finish_83 : decode cX5_finish 83 = .ok (.return_, 1) := by decide +kernel
set_option maxRecDepth 20000 in
theorem ggX5_matches_Jx4a65c_size_8abf5 : GoodIn wsX5_matches wsJx4a65c_size_8abf5 := goodIn_r _ [6, 7, 13, 14, 15] (by decide +kernel) (by decide +kernel)
set_option maxRecDepth 20000 in
theorem gX5_matches_Jx4a65c_size_8abf5 : GoodIn wsX5_matches (wsV RX5 40 RJx4a65c yJx4a65c_size_8abf5 wsJx4a65c_size_8abf5) := goodIn_app (goodIn_of _ (by decide +kernel)) ggX5_matches_Jx4a65c_size_8abf5
theorem dX5_matches_0 : decode cX5_matches 0 = .ok (.aload_n 0, 1) := by decide +kernel
theorem dX5_matches_1 : decode cX5_matches 1 = .ok (.getfield 19, 3) := by decide +kernel
theorem dX5_matches_4 : decode cX5_matches 4 = .ok (.invokevirtual 40, 3) := by decide +kernel
theorem dX5_matches_7 : decode cX5_matches 7 = .ok (.ireturn, 1) := by decide +kernel
set_option maxRecDepth 20000 in
theorem ggX5_matchState_X5_existingMatch : GoodIn wsX5_matchState wsX5_existingMatch := goodIn_ca (goodIn_r _ [6, 7, 8, 9, 10, 11, 12, 13, 14, 15, 16, 17, 18, 19, 20, 21, 22, 23, 24, 25, 26, 27, 28, 29, 30, 31, 32, 33, 41, 42, 43, 44, 45, 46, 47, 48] (by decide +kernel) (by decide +kernel)) (goodIn_sub (fun _ h => List.mem_cons_of_mem _ (List.mem_append_right _ h)) (by decide +kernel))
set_option maxRecDepth 20000 in
theorem gX5_matchState_X5_existingMatch : GoodIn wsX5_matchState (wsV RX5 162 RX5 yX5_existingMatch wsX5_existingMatch) := goodIn_app (goodIn_of _ (by decide +kernel)) ggX5_matchState_X5_existingMatch
theorem dX5_matchState_0 : decode cX5_matchState 0 = .ok (.aload_n 0, 1) := by decide +kernel
theorem dX5_matchState_1 : decode cX5_matchState 1 = .ok (.iload_n 1, 1) := by decide +kernel
theorem dX5_matchState_2 : decode cX5_matchState 2 = .ok (.invokevirtual 162, 3) := by decide +kernel
theorem dX5_matchState_5 : decode cX5_matchState 5 = .ok (.getfield 153, 3) := by decide +kernel
theorem dX5_matchState_8 : decode cX5_matchState 8 = .ok (.ireturn, 1) := by decide +kernel
set_option maxRecDepth 20000 in
theorem ggX5_team_X5_existingMatch : GoodIn wsX5_team wsX5_existingMatch := goodIn_ca (goodIn_r _ [7, 8, 9, 10, 11, 12, 13, 14, 15, 16, 17, 18, 19, 20, 21, 22, 23, 24, 25, 26, 27, 28, 29, 30, 31, 32, 33, 34, 47, 48, 49, 50, 51, 52, 53, 54] (by decide +kernel) (by decide +kernel)) (goodIn_sub (fun _ h => List.mem_cons_of_mem _ (List.mem_append_left _ (List.mem_append_right _ h))) (by decide +kernel))
set_option maxRecDepth 20000 in
theorem gX5_team_X5_existingMatch : GoodIn wsX5_team (wsV RX5 162 RX5 yX5_existingMatch wsX5_existingMatch) := goodIn_app (goodIn_of _ (by decide +kernel)) ggX5_team_X5_existingMatch
set_option maxRecDepth 20000 in
theorem ggX5_team_X5_checkTeam : GoodIn wsX5_team wsX5_checkTeam := goodIn_ca (goodIn_r _ [37, 38, 39] (by decide +kernel) (by decide +kernel)) (goodIn_sub (fun _ h => List.mem_cons_of_mem _ (List.mem_append_right _ h)) (by decide +kernel))
set_option maxRecDepth 20000 in
theorem gX5_team_X5_checkTeam : GoodIn wsX5_team (va_wsS RX5 165 yX5_checkTeam wsX5_checkTeam) := goodIn_app (goodIn_of _ (by decide +kernel)) ggX5_team_X5_checkTeam
theorem dX5_team_0 : decode cX5_team 0 = .ok (.aload_n 0, 1) := by decide +kernel
theorem dX5_team_1 : decode cX5_team 1 = .ok (.iload_n 1, 1) := by decide +kernel
theorem dX5_team_2 : decode cX5_team 2 = .ok (.invokevirtual 162, 3) := by decide +kernel
theorem dX5_team_5 : decode cX5_team 5 = .ok (.astore_n 3, 1) := by decide +kernel
theorem dX5_team_6 : decode cX5_team 6 = .ok (.iload_n 2, 1) := by decide +kernel
theorem dX5_team_7 : decode cX5_team 7 = .ok (.invokestatic 165, 3) := by decide +kernel
theorem dX5_team_10 : decode cX5_team 10 = .ok (.iload_n 2, 1) := by decide +kernel
theorem dX5_team_11 : decode cX5_team 11 = .ok (.ifCond .ne 10, 3) := by decide +kernel
theorem dX5_team_14 : decode cX5_team 14 = .ok (.aload_n 3, 1) := by decide +kernel
theorem dX5_team_15 : decode cX5_team 15 = .ok (.getfield 170, 3) := by decide +kernel
theorem dX5_team_18 : decode cX5_team 18 = .ok (.goto 7, 3) := by decide +kernel
theorem dX5_team_21 : decode cX5_team 21 = .ok (.aload_n 3, 1) := by decide +kernel
theorem dX5_team_22 : decode cX5_team 22 = .ok (.getfield 173, 3) := by decide +kernel
theorem dX5_team_25 : decode cX5_team 25 = .ok (.ireturn, 1) := by decide +kernel
set_option maxRecDepth 20000 in
theorem ggX5_unevenness_X5_existingMatch : GoodIn wsX5_unevenness wsX5_existingMatch := goodIn_ca (goodIn_r _ [6, 7, 8, 9, 10, 11, 12, 13, 14, 15, 16, 17, 18, 19, 20, 21, 22, 23, 24, 25, 26, 27, 28, 29, 30, 31, 32, 33, 41, 42, 43, 44, 45, 46, 47, 48] (by decide +kernel) (by decide +kernel)) (goodIn_sub (fun _ h => List.mem_cons_of_mem _ (List.mem_append_right _ h)) (by decide +kernel))
set_option maxRecDepth 20000 in
theorem gX5_unevenness_X5_existingMatch : GoodIn wsX5_unevenness (wsV RX5 162 RX5 yX5_existingMatch wsX5_existingMatch) := goodIn_app (goodIn_of _ (by decide +kernel)) ggX5_unevenness_X5_existingMatch
theorem dX5_unevenness_0 : decode cX5_unevenness 0 = .ok (.aload_n 0, 1) := by decide +kernel
theorem dX5_unevenness_1 : decode cX5_unevenness 1 = .ok (.iload_n 1, 1) := by decide +kernel
theorem dX5_unevenness_2 : decode cX5_unevenness 2 = .ok (.invokevirtual 162, 3) := by decide +kernel
theorem dX5_unevenness_5 : decode cX5_unevenness 5 = .ok (.getfield 185, 3) := by decide +kernel
theorem dX5_unevenness_8 : decode cX5_unevenness 8 = .ok (.ireturn, 1) := by decide +kernel
set_option maxRecDepth 20000 in
theorem ggX5_pass_Jx4a65c_size_8abf5 : GoodIn wsX5_pass wsJx4a65c_size_8abf5 := goodIn_r _ [15, 16, 85, 86, 87] (by decide +kernel) (by decide +kernel)
set_option maxRecDepth 20000 in
theorem gX5_pass_Jx4a65c_size_8abf5 : GoodIn wsX5_pass (wsV RX5 40 RJx4a65c yJx4a65c_size_8abf5 wsJx4a65c_size_8abf5) := goodIn_app (goodIn_of _ (by decide +kernel)) ggX5_pass_Jx4a65c_size_8abf5
set_option maxRecDepth 20000 in
theorem ggX5_pass_Jx4a65c_get_915e3 : GoodIn wsX5_pass wsJx4a65c_get_915e3 := goodIn_r _ [20, 16, 21, 22, 23, 24, 25, 26, 27, 28, 29, 30, 31, 14, 32, 33, 85, 86, 87] (by decide +kernel) (by decide +kernel)
set_option maxRecDepth 20000 in
theorem gX5_pass_Jx4a65c_get_915e3 : GoodIn wsX5_pass (wsV RX5 79 RJx4a65c yJx4a65c_get_915e3 wsJx4a65c_get_915e3) := goodIn_app (goodIn_of _ (by decide +kernel)) ggX5_pass_Jx4a65c_get_915e3
set_option maxRecDepth 20000 in
theorem ggX5_pass_X5_expire : GoodIn wsX5_pass wsX5_expire := goodIn_r _ [38, 39, 40, 41, 10, 42, 43, 44, 45, 46, 47, 48, 49, 50, 51, 52, 53, 54, 55, 12, 13, 14, 15, 16, 56, 18, 19, 20, 21, 22, 23, 24, 25, 26, 27, 28, 29, 30, 31, 32, 33, 11, 57, 58, 37, 59, 17, 60, 61, 62, 63, 64, 65, 66, 67, 68, 69, 70, 71, 72, 73, 74, 75, 76, 77, 78, 79, 80, 81, 82, 83, 84, 88, 89, 90, 91, 92, 85, 86, 87, 93, 94, 95, 96, 97, 98] (by decide +kernel) (by decide +kernel)
set_option maxRecDepth 20000 in
theorem gX5_pass_X5_expire : GoodIn wsX5_pass (wsV RX5 196 RX5 yX5_expire wsX5_expire) := goodIn_app (goodIn_of _ (by decide +kernel)) ggX5_pass_X5_expire
theorem dX5_pass_0 : decode cX5_pass 0 = .ok (.iload_n 1, 1) := by decide +kernel
theorem dX5_pass_1 : decode cX5_pass 1 = .ok (.iconst 1, 1) := by decide +kernel
theorem dX5_pass_2 : decode cX5_pass 2 = .ok (.if_icmp .lt 10, 3) := by decide +kernel
theorem dX5_pass_5 : decode cX5_pass 5 = .ok (.iload_n 1, 1) := by decide +kernel
theorem dX5_pass_6 : decode cX5_pass 6 = .ok (.sipush 1000, 3) := by decide +kernel
theorem dX5_pass_9 : decode cX5_pass 9 = .ok (.if_icmp .le 13, 3) := by decide +kernel
theorem dX5_pass_12 : decode cX5_pass 12 = .ok (.new 33, 3) := by decide +kernel
theorem dX5_pass_15 : decode cX5_pass 15 = .ok (.dup, 1) := by decide +kernel
theorem dX5_pass_16 : decode cX5_pass 16 = .ok (.ldc 188, 2) := by decide +kernel
theorem dX5_pass_18 : decode cX5_pass 18 = .ok (.invokespecial 37, 3) := by decide +kernel
theorem dX5_pass_21 : decode cX5_pass 21 = .ok (.athrow, 1) := by decide +kernel
theorem dX5_pass_22 : decode cX5_pass 22 = .ok (.iload_n 1, 1) := by decide +kernel
theorem dX5_pass_23 : decode cX5_pass 23 = .ok (.ldc 190, 2) := by decide +kernel
theorem dX5_pass_25 : decode cX5_pass 25 = .ok (.aload_n 0, 1) := by decide +kernel
theorem dX5_pass_26 : decode cX5_pass 26 = .ok (.getfield 29, 3) := by decide +kernel
theorem dX5_pass_29 : decode cX5_pass 29 = .ok (.isub, 1) := by decide +kernel
theorem dX5_pass_30 : decode cX5_pass 30 = .ok (.if_icmp .le 13, 3) := by decide +kernel
theorem dX5_pass_33 : decode cX5_pass 33 = .ok (.new 44, 3) := by decide +kernel
theorem dX5_pass_36 : decode cX5_pass 36 = .ok (.dup, 1) := by decide +kernel
theorem dX5_pass_37 : decode cX5_pass 37 = .ok (.ldc 191, 2) := by decide +kernel
theorem dX5_pass_39 : decode cX5_pass 39 = .ok (.invokespecial 48, 3) := by decide +kernel
theorem dX5_pass_42 : decode cX5_pass 42 = .ok (.athrow, 1) := by decide +kernel
theorem dX5_pass_43 : decode cX5_pass 43 = .ok (.aload_n 0, 1) := by decide +kernel
theorem dX5_pass_44 : decode cX5_pass 44 = .ok (.dup, 1) := by decide +kernel
theorem dX5_pass_45 : decode cX5_pass 45 = .ok (.getfield 29, 3) := by decide +kernel
theorem dX5_pass_48 : decode cX5_pass 48 = .ok (.iload_n 1, 1) := by decide +kernel
theorem dX5_pass_49 : decode cX5_pass 49 = .ok (.iadd, 1) := by decide +kernel
theorem dX5_pass_50 : decode cX5_pass 50 = .ok (.putfield 29, 3) := by decide +kernel
theorem dX5_pass_53 : decode cX5_pass 53 = .ok (.iconst 0, 1) := by decide +kernel
theorem dX5_pass_54 : decode cX5_pass 54 = .ok (.istore_n 2, 1) := by decide +kernel
theorem dX5_pass_55 : decode cX5_pass 55 = .ok (.iconst 0, 1) := by decide +kernel
theorem dX5_pass_56 : decode cX5_pass 56 = .ok (.istore_n 3, 1) := by decide +kernel
theorem dX5_pass_57 : decode cX5_pass 57 = .ok (.iload_n 3, 1) := by decide +kernel
theorem dX5_pass_58 : decode cX5_pass 58 = .ok (.aload_n 0, 1) := by decide +kernel
theorem dX5_pass_59 : decode cX5_pass 59 = .ok (.getfield 19, 3) := by decide +kernel
theorem dX5_pass_62 : decode cX5_pass 62 = .ok (.invokevirtual 40, 3) := by decide +kernel
theorem dX5_pass_65 : decode cX5_pass 65 = .ok (.if_icmp .ge 51, 3) := by decide +kernel
theorem dX5_pass_68 : decode cX5_pass 68 = .ok (.aload_n 0, 1) := by decide +kernel
theorem dX5_pass_69 : decode cX5_pass 69 = .ok (.getfield 19, 3) := by decide +kernel
theorem dX5_pass_72 : decode cX5_pass 72 = .ok (.iload_n 3, 1) := by decide +kernel
theorem dX5_pass_73 : decode cX5_pass 73 = .ok (.invokevirtual 79, 3) := by decide +kernel
theorem dX5_pass_76 : decode cX5_pass 76 = .ok (.checkcast 148, 3) := by decide +kernel
theorem dX5_pass_79 : decode cX5_pass 79 = .ok (.astore 4, 2) := by decide +kernel
theorem dX5_pass_81 : decode cX5_pass 81 = .ok (.aload 4, 2) := by decide +kernel
theorem dX5_pass_83 : decode cX5_pass 83 = .ok (.getfield 153, 3) := by decide +kernel
theorem dX5_pass_86 : decode cX5_pass 86 = .ok (.ifCond .ne 24, 3) := by decide +kernel
theorem dX5_pass_89 : decode cX5_pass 89 = .ok (.aload 4, 2) := by decide +kernel
theorem dX5_pass_91 : decode cX5_pass 91 = .ok (.getfield 193, 3) := by decide +kernel
theorem dX5_pass_94 : decode cX5_pass 94 = .ok (.aload_n 0, 1) := by decide +kernel
theorem dX5_pass_95 : decode cX5_pass 95 = .ok (.getfield 29, 3) := by decide +kernel
theorem dX5_pass_98 : decode cX5_pass 98 = .ok (.if_icmp .gt 12, 3) := by decide +kernel
theorem dX5_pass_101 : decode cX5_pass 101 = .ok (.aload_n 0, 1) := by decide +kernel
theorem dX5_pass_102 : decode cX5_pass 102 = .ok (.aload 4, 2) := by decide +kernel
theorem dX5_pass_104 : decode cX5_pass 104 = .ok (.invokevirtual 196, 3) := by decide +kernel
theorem dX5_pass_107 : decode cX5_pass 107 = .ok (.iinc 2 1, 3) := by decide +kernel
theorem dX5_pass_110 : decode cX5_pass 110 = .ok (.iinc 3 1, 3) := by decide +kernel
theorem dX5_pass_113 : decode cX5_pass 113 = .ok (.goto (-56), 3) := by decide +kernel
theorem dX5_pass_116 : decode cX5_pass 116 = .ok (.iload_n 2, 1) := by decide +kernel
theorem dX5_pass_117 : decode cX5_pass 117 = .ok (.ireturn, 1) := by decide +kernel
theorem dX5_clock_0 : decode cX5_clock 0 = .ok (.aload_n 0, 1) := by decide +kernel
theorem dX5_clock_1 : decode cX5_clock 1 = .ok (.getfield 29, 3) := by decide +kernel
theorem dX5_clock_4 : decode cX5_clock 4 = .ok (.ireturn, 1) := by decide +kernel
set_option maxRecDepth 20000 in
theorem ggX5_existingPlayer_Jx4a65c_size_8abf5 : GoodIn wsX5_existingPlayer wsJx4a65c_size_8abf5 := goodIn_r _ [9, 10, 33, 34, 35] (by decide +kernel) (by decide +kernel)
set_option maxRecDepth 20000 in
theorem gX5_existingPlayer_Jx4a65c_size_8abf5 : GoodIn wsX5_existingPlayer (wsV RX5 40 RJx4a65c yJx4a65c_size_8abf5 wsJx4a65c_size_8abf5) := goodIn_app (goodIn_of _ (by decide +kernel)) ggX5_existingPlayer_Jx4a65c_size_8abf5
set_option maxRecDepth 20000 in
theorem ggX5_existingPlayer_Jx4a65c_get_915e3 : GoodIn wsX5_existingPlayer wsJx4a65c_get_915e3 := goodIn_r _ [14, 10, 15, 16, 17, 18, 19, 20, 21, 22, 23, 24, 25, 8, 26, 27, 33, 34, 35] (by decide +kernel) (by decide +kernel)
set_option maxRecDepth 20000 in
theorem gX5_existingPlayer_Jx4a65c_get_915e3 : GoodIn wsX5_existingPlayer (wsV RX5 79 RJx4a65c yJx4a65c_get_915e3 wsJx4a65c_get_915e3) := goodIn_app (goodIn_of _ (by decide +kernel)) ggX5_existingPlayer_Jx4a65c_get_915e3
theorem dX5_existingPlayer_0 : decode cX5_existingPlayer 0 = .ok (.iload_n 1, 1) := by decide +kernel
theorem dX5_existingPlayer_1 : decode cX5_existingPlayer 1 = .ok (.ifCond .lt 14, 3) := by decide +kernel
theorem dX5_existingPlayer_4 : decode cX5_existingPlayer 4 = .ok (.iload_n 1, 1) := by decide +kernel
theorem dX5_existingPlayer_5 : decode cX5_existingPlayer 5 = .ok (.aload_n 0, 1) := by decide +kernel
theorem dX5_existingPlayer_6 : decode cX5_existingPlayer 6 = .ok (.getfield 10, 3) := by decide +kernel
theorem dX5_existingPlayer_9 : decode cX5_existingPlayer 9 = .ok (.invokevirtual 40, 3) := by decide +kernel
theorem dX5_existingPlayer_12 : decode cX5_existingPlayer 12 = .ok (.if_icmp .lt 13, 3) := by decide +kernel
theorem dX5_existingPlayer_15 : decode cX5_existingPlayer 15 = .ok (.new 200, 3) := by decide +kernel
theorem dX5_existingPlayer_18 : decode cX5_existingPlayer 18 = .ok (.dup, 1) := by decide +kernel
theorem dX5_existingPlayer_19 : decode cX5_existingPlayer 19 = .ok (.ldc 202, 2) := by decide +kernel
theorem dX5_existingPlayer_21 : decode cX5_existingPlayer 21 = .ok (.invokespecial 204, 3) := by decide +kernel
theorem dX5_existingPlayer_24 : decode cX5_existingPlayer 24 = .ok (.athrow, 1) := by decide +kernel
theorem dX5_existingPlayer_25 : decode cX5_existingPlayer 25 = .ok (.aload_n 0, 1) := by decide +kernel
theorem dX5_existingPlayer_26 : decode cX5_existingPlayer 26 = .ok (.getfield 10, 3) := by decide +kernel
theorem dX5_existingPlayer_29 : decode cX5_existingPlayer 29 = .ok (.iload_n 1, 1) := by decide +kernel
theorem dX5_existingPlayer_30 : decode cX5_existingPlayer 30 = .ok (.invokevirtual 79, 3) := by decide +kernel
theorem dX5_existingPlayer_33 : decode cX5_existingPlayer 33 = .ok (.checkcast 49, 3) := by decide +kernel
theorem dX5_existingPlayer_36 : decode cX5_existingPlayer 36 = .ok (.areturn, 1) := by decide +kernel
set_option maxRecDepth 20000 in
theorem ggX5_existingParty_Jx4a65c_size_8abf5 : GoodIn wsX5_existingParty wsJx4a65c_size_8abf5 := goodIn_r _ [9, 10, 33, 34, 35] (by decide +kernel) (by decide +kernel)
set_option maxRecDepth 20000 in
theorem gX5_existingParty_Jx4a65c_size_8abf5 : GoodIn wsX5_existingParty (wsV RX5 40 RJx4a65c yJx4a65c_size_8abf5 wsJx4a65c_size_8abf5) := goodIn_app (goodIn_of _ (by decide +kernel)) ggX5_existingParty_Jx4a65c_size_8abf5
set_option maxRecDepth 20000 in
theorem ggX5_existingParty_Jx4a65c_get_915e3 : GoodIn wsX5_existingParty wsJx4a65c_get_915e3 := goodIn_r _ [14, 10, 15, 16, 17, 18, 19, 20, 21, 22, 23, 24, 25, 8, 26, 27, 33, 34, 35] (by decide +kernel) (by decide +kernel)
set_option maxRecDepth 20000 in
theorem gX5_existingParty_Jx4a65c_get_915e3 : GoodIn wsX5_existingParty (wsV RX5 79 RJx4a65c yJx4a65c_get_915e3 wsJx4a65c_get_915e3) := goodIn_app (goodIn_of _ (by decide +kernel)) ggX5_existingParty_Jx4a65c_get_915e3
theorem dX5_existingParty_0 : decode cX5_existingParty 0 = .ok (.iload_n 1, 1) := by decide +kernel
theorem dX5_existingParty_1 : decode cX5_existingParty 1 = .ok (.ifCond .lt 14, 3) := by decide +kernel
theorem dX5_existingParty_4 : decode cX5_existingParty 4 = .ok (.iload_n 1, 1) := by decide +kernel
theorem dX5_existingParty_5 : decode cX5_existingParty 5 = .ok (.aload_n 0, 1) := by decide +kernel
theorem dX5_existingParty_6 : decode cX5_existingParty 6 = .ok (.getfield 16, 3) := by decide +kernel
theorem dX5_existingParty_9 : decode cX5_existingParty 9 = .ok (.invokevirtual 40, 3) := by decide +kernel
theorem dX5_existingParty_12 : decode cX5_existingParty 12 = .ok (.if_icmp .lt 13, 3) := by decide +kernel
theorem dX5_existingParty_15 : decode cX5_existingParty 15 = .ok (.new 200, 3) := by decide +kernel
theorem dX5_existingParty_18 : decode cX5_existingParty 18 = .ok (.dup, 1) := by decide +kernel
theorem dX5_existingParty_19 : decode cX5_existingParty 19 = .ok (.ldc 205, 2) := by decide +kernel
theorem dX5_existingParty_21 : decode cX5_existingParty 21 = .ok (.invokespecial 204, 3) := by decide +kernel
theorem dX5_existingParty_24 : decode cX5_existingParty 24 = .ok (.athrow, 1) := by decide +kernel
theorem dX5_existingParty_25 : decode cX5_existingParty 25 = .ok (.aload_n 0, 1) := by decide +kernel
theorem dX5_existingParty_26 : decode cX5_existingParty 26 = .ok (.getfield 16, 3) := by decide +kernel
theorem dX5_existingParty_29 : decode cX5_existingParty 29 = .ok (.iload_n 1, 1) := by decide +kernel
theorem dX5_existingParty_30 : decode cX5_existingParty 30 = .ok (.invokevirtual 79, 3) := by decide +kernel
theorem dX5_existingParty_33 : decode cX5_existingParty 33 = .ok (.checkcast 72, 3) := by decide +kernel
theorem dX5_existingParty_36 : decode cX5_existingParty 36 = .ok (.areturn, 1) := by decide +kernel
set_option maxRecDepth 20000 in
theorem ggX5_queuingParty_X5_existingParty : GoodIn wsX5_queuingParty wsX5_existingParty := goodIn_ca (goodIn_r _ [8, 9, 10, 11, 12, 13, 14, 15, 16, 17, 18, 19, 20, 21, 22, 23, 24, 25, 26, 27, 28, 29, 30, 31, 32, 33, 34, 35, 41, 42, 43, 44, 45, 46, 47, 48] (by decide +kernel) (by decide +kernel)) (goodIn_sub (fun _ h => List.mem_cons_of_mem _ (List.mem_append_right _ h)) (by decide +kernel))
set_option maxRecDepth 20000 in
theorem gX5_queuingParty_X5_existingParty : GoodIn wsX5_queuingParty (wsV RX5 124 RX5 yX5_existingParty wsX5_existingParty) := goodIn_app (goodIn_of _ (by decide +kernel)) ggX5_queuingParty_X5_existingParty
theorem dX5_queuingParty_0 : decode cX5_queuingParty 0 = .ok (.aload_n 0, 1) := by decide +kernel
theorem dX5_queuingParty_1 : decode cX5_queuingParty 1 = .ok (.iload_n 1, 1) := by decide +kernel
theorem dX5_queuingParty_2 : decode cX5_queuingParty 2 = .ok (.invokevirtual 124, 3) := by decide +kernel
theorem dX5_queuingParty_5 : decode cX5_queuingParty 5 = .ok (.astore_n 2, 1) := by decide +kernel
theorem dX5_queuingParty_6 : decode cX5_queuingParty 6 = .ok (.aload_n 2, 1) := by decide +kernel
theorem dX5_queuingParty_7 : decode cX5_queuingParty 7 = .ok (.getfield 91, 3) := by decide +kernel
theorem dX5_queuingParty_10 : decode cX5_queuingParty 10 = .ok (.iconst 1, 1) := by decide +kernel
theorem dX5_queuingParty_11 : decode cX5_queuingParty 11 = .ok (.if_icmp .eq 13, 3) := by decide +kernel
theorem dX5_queuingParty_14 : decode cX5_queuingParty 14 = .ok (.new 44, 3) := by decide +kernel
theorem dX5_queuingParty_17 : decode cX5_queuingParty 17 = .ok (.dup, 1) := by decide +kernel
theorem dX5_queuingParty_18 : decode cX5_queuingParty 18 = .ok (.ldc 207, 2) := by decide +kernel
theorem dX5_queuingParty_20 : decode cX5_queuingParty 20 = .ok (.invokespecial 48, 3) := by decide +kernel
theorem dX5_queuingParty_23 : decode cX5_queuingParty 23 = .ok (.athrow, 1) := by decide +kernel
theorem dX5_queuingParty_24 : decode cX5_queuingParty 24 = .ok (.aload_n 2, 1) := by decide +kernel
theorem dX5_queuingParty_25 : decode cX5_queuingParty 25 = .ok (.areturn, 1) := by decide +kernel
set_option maxRecDepth 20000 in
theorem ggX5_existingMatch_Jx4a65c_size_8abf5 : GoodIn wsX5_existingMatch wsJx4a65c_size_8abf5 := goodIn_r _ [9, 10, 33, 34, 35] (by decide +kernel) (by decide +kernel)
set_option maxRecDepth 20000 in
theorem gX5_existingMatch_Jx4a65c_size_8abf5 : GoodIn wsX5_existingMatch (wsV RX5 40 RJx4a65c yJx4a65c_size_8abf5 wsJx4a65c_size_8abf5) := goodIn_app (goodIn_of _ (by decide +kernel)) ggX5_existingMatch_Jx4a65c_size_8abf5
set_option maxRecDepth 20000 in
theorem ggX5_existingMatch_Jx4a65c_get_915e3 : GoodIn wsX5_existingMatch wsJx4a65c_get_915e3 := goodIn_r _ [14, 10, 15, 16, 17, 18, 19, 20, 21, 22, 23, 24, 25, 8, 26, 27, 33, 34, 35] (by decide +kernel) (by decide +kernel)
set_option maxRecDepth 20000 in
theorem gX5_existingMatch_Jx4a65c_get_915e3 : GoodIn wsX5_existingMatch (wsV RX5 79 RJx4a65c yJx4a65c_get_915e3 wsJx4a65c_get_915e3) := goodIn_app (goodIn_of _ (by decide +kernel)) ggX5_existingMatch_Jx4a65c_get_915e3
theorem dX5_existingMatch_0 : decode cX5_existingMatch 0 = .ok (.iload_n 1, 1) := by decide +kernel
theorem dX5_existingMatch_1 : decode cX5_existingMatch 1 = .ok (.ifCond .lt 14, 3) := by decide +kernel
theorem dX5_existingMatch_4 : decode cX5_existingMatch 4 = .ok (.iload_n 1, 1) := by decide +kernel
theorem dX5_existingMatch_5 : decode cX5_existingMatch 5 = .ok (.aload_n 0, 1) := by decide +kernel
theorem dX5_existingMatch_6 : decode cX5_existingMatch 6 = .ok (.getfield 19, 3) := by decide +kernel
theorem dX5_existingMatch_9 : decode cX5_existingMatch 9 = .ok (.invokevirtual 40, 3) := by decide +kernel
theorem dX5_existingMatch_12 : decode cX5_existingMatch 12 = .ok (.if_icmp .lt 13, 3) := by decide +kernel
theorem dX5_existingMatch_15 : decode cX5_existingMatch 15 = .ok (.new 200, 3) := by decide +kernel
theorem dX5_existingMatch_18 : decode cX5_existingMatch 18 = .ok (.dup, 1) := by decide +kernel
theorem dX5_existingMatch_19 : decode cX5_existingMatch 19 = .ok (.ldc 209, 2) := by decide +kernel
theorem dX5_existingMatch_21 : decode cX5_existingMatch 21 = .ok (.invokespecial 204, 3) := by decide +kernel
theorem dX5_existingMatch_24 : decode cX5_existingMatch 24 = .ok (.athrow, 1) := by decide +kernel
theorem dX5_existingMatch_25 : decode cX5_existingMatch 25 = .ok (.aload_n 0, 1) := by decide +kernel
theorem dX5_existingMatch_26 : decode cX5_existingMatch 26 = .ok (.getfield 19, 3) := by decide +kernel
theorem dX5_existingMatch_29 : decode cX5_existingMatch 29 = .ok (.iload_n 1, 1) := by decide +kernel
theorem dX5_existingMatch_30 : decode cX5_existingMatch 30 = .ok (.invokevirtual 79, 3) := by decide +kernel
theorem dX5_existingMatch_33 : decode cX5_existingMatch 33 = .ok (.checkcast 148, 3) := by decide +kernel
theorem dX5_existingMatch_36 : decode cX5_existingMatch 36 = .ok (.areturn, 1) := by decide +kernel
set_option maxRecDepth 20000 in
theorem ggX5_matchThatAwaits_X5_existingMatch : GoodIn wsX5_matchThatAwaits wsX5_existingMatch := goodIn_ca (goodIn_r _ [7, 8, 9, 10, 11, 12, 13, 14, 15, 16, 17, 18, 19, 20, 21, 22, 23, 24, 25, 26, 27, 28, 29, 30, 31, 32, 33, 34, 50, 51, 52, 53, 54, 55, 56, 57] (by decide +kernel) (by decide +kernel)) (goodIn_sub (fun _ h => List.mem_cons_of_mem _ (List.mem_append_right _ h)) (by decide +kernel))
set_option maxRecDepth 20000 in
theorem gX5_matchThatAwaits_X5_existingMatch : GoodIn wsX5_matchThatAwaits (wsV RX5 162 RX5 yX5_existingMatch wsX5_existingMatch) := goodIn_app (goodIn_of _ (by decide +kernel)) ggX5_matchThatAwaits_X5_existingMatch
set_option maxRecDepth 20000 in
theorem ggX5_matchThatAwaits_X5_existingPlayer : GoodIn wsX5_matchThatAwaits wsX5_existingPlayer := goodIn_ca (goodIn_r _ [38, 8, 9, 39, 40, 12, 13, 14, 15, 16, 17, 18, 19, 20, 21, 22, 23, 24, 25, 26, 27, 28, 29, 30, 31, 32, 33, 34, 50, 51, 52, 53, 54, 55, 56, 57] (by decide +kernel) (by decide +kernel)) (goodIn_sub (fun _ h => List.mem_cons_of_mem _ (List.mem_append_right _ h)) (by decide +kernel))
set_option maxRecDepth 20000 in
theorem gX5_matchThatAwaits_X5_existingPlayer : GoodIn wsX5_matchThatAwaits (wsV RX5 97 RX5 yX5_existingPlayer wsX5_existingPlayer) := goodIn_app (goodIn_of _ (by decide +kernel)) ggX5_matchThatAwaits_X5_existingPlayer
set_option maxRecDepth 20000 in
theorem ggX5_matchThatAwaits_X1_awaits : GoodIn wsX5_matchThatAwaits wsX1_awaits := goodIn_r _ [45, 46, 47, 48, 6, 49, 58, 59, 60, 61, 62, 63, 64] (by decide +kernel) (by decide +kernel)
set_option maxRecDepth 20000 in
theorem gX5_matchThatAwaits_X1_awaits : GoodIn wsX5_matchThatAwaits (wsV RX5 211 RX1 yX1_awaits wsX1_awaits) := goodIn_app (goodIn_of _ (by decide +kernel)) ggX5_matchThatAwaits_X1_awaits
theorem dX5_matchThatAwaits_0 : decode cX5_matchThatAwaits 0 = .ok (.aload_n 0, 1) := by decide +kernel
theorem dX5_matchThatAwaits_1 : decode cX5_matchThatAwaits 1 = .ok (.iload_n 1, 1) := by decide +kernel
theorem dX5_matchThatAwaits_2 : decode cX5_matchThatAwaits 2 = .ok (.invokevirtual 162, 3) := by decide +kernel
theorem dX5_matchThatAwaits_5 : decode cX5_matchThatAwaits 5 = .ok (.astore_n 3, 1) := by decide +kernel
theorem dX5_matchThatAwaits_6 : decode cX5_matchThatAwaits 6 = .ok (.aload_n 0, 1) := by decide +kernel
theorem dX5_matchThatAwaits_7 : decode cX5_matchThatAwaits 7 = .ok (.iload_n 2, 1) := by decide +kernel
theorem dX5_matchThatAwaits_8 : decode cX5_matchThatAwaits 8 = .ok (.invokevirtual 97, 3) := by decide +kernel
theorem dX5_matchThatAwaits_11 : decode cX5_matchThatAwaits 11 = .ok (.pop, 1) := by decide +kernel
theorem dX5_matchThatAwaits_12 : decode cX5_matchThatAwaits 12 = .ok (.aload_n 3, 1) := by decide +kernel
theorem dX5_matchThatAwaits_13 : decode cX5_matchThatAwaits 13 = .ok (.iload_n 2, 1) := by decide +kernel
theorem dX5_matchThatAwaits_14 : decode cX5_matchThatAwaits 14 = .ok (.invokevirtual 211, 3) := by decide +kernel
theorem dX5_matchThatAwaits_17 : decode cX5_matchThatAwaits 17 = .ok (.ifCond .ne 13, 3) := by decide +kernel
theorem dX5_matchThatAwaits_20 : decode cX5_matchThatAwaits 20 = .ok (.new 44, 3) := by decide +kernel
theorem dX5_matchThatAwaits_23 : decode cX5_matchThatAwaits 23 = .ok (.dup, 1) := by decide +kernel
theorem dX5_matchThatAwaits_24 : decode cX5_matchThatAwaits 24 = .ok (.ldc 214, 2) := by decide +kernel
theorem dX5_matchThatAwaits_26 : decode cX5_matchThatAwaits 26 = .ok (.invokespecial 48, 3) := by decide +kernel
theorem dX5_matchThatAwaits_29 : decode cX5_matchThatAwaits 29 = .ok (.athrow, 1) := by decide +kernel
theorem dX5_matchThatAwaits_30 : decode cX5_matchThatAwaits 30 = .ok (.aload_n 3, 1) := by decide +kernel
theorem dX5_matchThatAwaits_31 : decode cX5_matchThatAwaits 31 = .ok (.areturn, 1) := by decide +kernel
theorem dX5_checkTeam_0 : decode cX5_checkTeam 0 = .ok (.iload_n 0, 1) := by decide +kernel
theorem dX5_checkTeam_1 : decode cX5_checkTeam 1 = .ok (.ifCond .eq 18, 3) := by decide +kernel
theorem dX5_checkTeam_4 : decode cX5_checkTeam 4 = .ok (.iload_n 0, 1) := by decide +kernel
theorem dX5_checkTeam_5 : decode cX5_checkTeam 5 = .ok (.iconst 1, 1) := by decide +kernel
theorem dX5_checkTeam_6 : decode cX5_checkTeam 6 = .ok (.if_icmp .eq 13, 3) := by decide +kernel
theorem dX5_checkTeam_9 : decode cX5_checkTeam 9 = .ok (.new 33, 3) := by decide +kernel
theorem dX5_checkTeam_12 : decode cX5_checkTeam 12 = .ok (.dup, 1) := by decide +kernel
theorem dX5_checkTeam_13 : decode cX5_checkTeam 13 = .ok (.ldc 216, 2) := by decide +kernel
theorem dX5_checkTeam_15 : decode cX5_checkTeam 15 = .ok (.invokespecial 37, 3) := by decide +kernel
theorem dX5_checkTeam_18 : decode cX5_checkTeam 18 = .ok (.athrow, 1) := by decide +kernel
theorem dX5_checkTeam_19 : decode cX5_checkTeam 19 = .ok (.return_, 1) := by decide +kernel
theorem dX5_has_0 : decode cX5_has 0 = .ok (.iload_n 0, 1) := by decide +kernel
theorem dX5_has_1 : decode cX5_has 1 = .ok (.iload_n 1, 1) := by decide +kernel
theorem dX5_has_2 : decode cX5_has 2 = .ok (.ishr, 1) := by decide +kernel
theorem dX5_has_3 : decode cX5_has 3 = .ok (.iconst 1, 1) := by decide +kernel
theorem dX5_has_4 : decode cX5_has 4 = .ok (.iand, 1) := by decide +kernel
theorem dX5_has_5 : decode cX5_has 5 = .ok (.ifCond .eq 7, 3) := by decide +kernel
theorem dX5_has_8 : decode cX5_has 8 = .ok (.iconst 1, 1) := by decide +kernel
theorem dX5_has_9 : decode cX5_has 9 = .ok (.goto 4, 3) := by decide +kernel
theorem dX5_has_12 : decode cX5_has 12 = .ok (.iconst 0, 1) := by decide +kernel
theorem dX5_has_13 : decode cX5_has 13 = .ok (.ireturn, 1) := by decide +kernel
set_option maxRecDepth 20000 in
theorem ggX5_allMayQueue_Jx4a65c_size_8abf5 : GoodIn wsX5_allMayQueue wsJx4a65c_size_8abf5 := goodIn_r _ [9, 10, 50, 51, 52] (by decide +kernel) (by decide +kernel)
set_option maxRecDepth 20000 in
theorem gX5_allMayQueue_Jx4a65c_size_8abf5 : GoodIn wsX5_allMayQueue (wsV RX5 40 RJx4a65c yJx4a65c_size_8abf5 wsJx4a65c_size_8abf5) := goodIn_app (goodIn_of _ (by decide +kernel)) ggX5_allMayQueue_Jx4a65c_size_8abf5
set_option maxRecDepth 20000 in
theorem ggX5_allMayQueue_Jx4a65c_get_915e3 : GoodIn wsX5_allMayQueue wsJx4a65c_get_915e3 := goodIn_r _ [14, 10, 15, 16, 17, 18, 19, 20, 21, 22, 23, 24, 25, 8, 26, 27, 50, 51, 52] (by decide +kernel) (by decide +kernel)
set_option maxRecDepth 20000 in
theorem gX5_allMayQueue_Jx4a65c_get_915e3 : GoodIn wsX5_allMayQueue (wsV RX5 79 RJx4a65c yJx4a65c_get_915e3 wsJx4a65c_get_915e3) := goodIn_app (goodIn_of _ (by decide +kernel)) ggX5_allMayQueue_Jx4a65c_get_915e3
set_option maxRecDepth 20000 in
theorem ggX5_allMayQueue_X5_has : GoodIn wsX5_allMayQueue wsX5_has := goodIn_r _ [31] (by decide +kernel) (by decide +kernel)
set_option maxRecDepth 20000 in
theorem gX5_allMayQueue_X5_has : GoodIn wsX5_allMayQueue (va_wsS RX5 75 yX5_has wsX5_has) := goodIn_app (goodIn_of _ (by decide +kernel)) ggX5_allMayQueue_X5_has
set_option maxRecDepth 20000 in
theorem ggX5_allMayQueue_X3_standing : GoodIn wsX5_allMayQueue wsX3_standing := goodIn_r _ [36, 37, 38, 44, 45, 46, 47, 48, 49, 53, 54, 55, 56, 57] (by decide +kernel) (by decide +kernel)
set_option maxRecDepth 20000 in
theorem gX5_allMayQueue_X3_standing : GoodIn wsX5_allMayQueue (wsV RX5 101 RX3 yX3_standing wsX3_standing) := goodIn_app (goodIn_of _ (by decide +kernel)) ggX5_allMayQueue_X3_standing
theorem dX5_allMayQueue_0 : decode cX5_allMayQueue 0 = .ok (.iconst 0, 1) := by decide +kernel
theorem dX5_allMayQueue_1 : decode cX5_allMayQueue 1 = .ok (.istore_n 2, 1) := by decide +kernel
theorem dX5_allMayQueue_2 : decode cX5_allMayQueue 2 = .ok (.iload_n 2, 1) := by decide +kernel
theorem dX5_allMayQueue_3 : decode cX5_allMayQueue 3 = .ok (.aload_n 0, 1) := by decide +kernel
theorem dX5_allMayQueue_4 : decode cX5_allMayQueue 4 = .ok (.getfield 10, 3) := by decide +kernel
theorem dX5_allMayQueue_7 : decode cX5_allMayQueue 7 = .ok (.invokevirtual 40, 3) := by decide +kernel
theorem dX5_allMayQueue_10 : decode cX5_allMayQueue 10 = .ok (.if_icmp .ge 49, 3) := by decide +kernel
theorem dX5_allMayQueue_13 : decode cX5_allMayQueue 13 = .ok (.aload_n 0, 1) := by decide +kernel
theorem dX5_allMayQueue_14 : decode cX5_allMayQueue 14 = .ok (.getfield 10, 3) := by decide +kernel
theorem dX5_allMayQueue_17 : decode cX5_allMayQueue 17 = .ok (.iload_n 2, 1) := by decide +kernel
theorem dX5_allMayQueue_18 : decode cX5_allMayQueue 18 = .ok (.invokevirtual 79, 3) := by decide +kernel
theorem dX5_allMayQueue_21 : decode cX5_allMayQueue 21 = .ok (.checkcast 49, 3) := by decide +kernel
theorem dX5_allMayQueue_24 : decode cX5_allMayQueue 24 = .ok (.astore_n 3, 1) := by decide +kernel
theorem dX5_allMayQueue_25 : decode cX5_allMayQueue 25 = .ok (.iload_n 1, 1) := by decide +kernel
theorem dX5_allMayQueue_26 : decode cX5_allMayQueue 26 = .ok (.iload_n 2, 1) := by decide +kernel
theorem dX5_allMayQueue_27 : decode cX5_allMayQueue 27 = .ok (.invokestatic 75, 3) := by decide +kernel
theorem dX5_allMayQueue_30 : decode cX5_allMayQueue 30 = .ok (.ifCond .eq 23, 3) := by decide +kernel
theorem dX5_allMayQueue_33 : decode cX5_allMayQueue 33 = .ok (.aload_n 3, 1) := by decide +kernel
theorem dX5_allMayQueue_34 : decode cX5_allMayQueue 34 = .ok (.invokevirtual 101, 3) := by decide +kernel
theorem dX5_allMayQueue_37 : decode cX5_allMayQueue 37 = .ok (.ifCond .ne 14, 3) := by decide +kernel
theorem dX5_allMayQueue_40 : decode cX5_allMayQueue 40 = .ok (.aload_n 3, 1) := by decide +kernel
theorem dX5_allMayQueue_41 : decode cX5_allMayQueue 41 = .ok (.getfield 112, 3) := by decide +kernel
theorem dX5_allMayQueue_44 : decode cX5_allMayQueue 44 = .ok (.aload_n 0, 1) := by decide +kernel
theorem dX5_allMayQueue_45 : decode cX5_allMayQueue 45 = .ok (.getfield 29, 3) := by decide +kernel
theorem dX5_allMayQueue_48 : decode cX5_allMayQueue 48 = .ok (.if_icmp .le 5, 3) := by decide +kernel
theorem dX5_allMayQueue_51 : decode cX5_allMayQueue 51 = .ok (.iconst 0, 1) := by decide +kernel
theorem dX5_allMayQueue_52 : decode cX5_allMayQueue 52 = .ok (.ireturn, 1) := by decide +kernel
theorem dX5_allMayQueue_53 : decode cX5_allMayQueue 53 = .ok (.iinc 2 1, 3) := by decide +kernel
theorem dX5_allMayQueue_56 : decode cX5_allMayQueue 56 = .ok (.goto (-54), 3) := by decide +kernel
theorem dX5_allMayQueue_59 : decode cX5_allMayQueue 59 = .ok (.iconst 1, 1) := by decide +kernel
theorem dX5_allMayQueue_60 : decode cX5_allMayQueue 60 = .ok (.ireturn, 1) := by decide +kernel
set_option maxRecDepth 20000 in
theorem ggX5_gatherCandidates_Jx4a65c_clear_da8c8 : GoodIn wsX5_gatherCandidates wsJx4a65c_clear_da8c8 := goodIn_r _ [15, 16, 17, 18, 19, 129, 130, 131] (by decide +kernel) (by decide +kernel)
set_option maxRecDepth 20000 in
theorem gX5_gatherCandidates_Jx4a65c_clear_da8c8 : GoodIn wsX5_gatherCandidates (wsV RX5 221 RJx4a65c yJx4a65c_clear_da8c8 wsJx4a65c_clear_da8c8) := goodIn_app (goodIn_of _ (by decide +kernel)) ggX5_gatherCandidates_Jx4a65c_clear_da8c8
set_option maxRecDepth 20000 in
theorem ggX5_gatherCandidates_Jx4a65c_size_8abf5 : GoodIn wsX5_gatherCandidates wsJx4a65c_size_8abf5 := goodIn_r _ [23, 19, 129, 130, 131] (by decide +kernel) (by decide +kernel)
set_option maxRecDepth 20000 in
theorem gX5_gatherCandidates_Jx4a65c_size_8abf5 : GoodIn wsX5_gatherCandidates (wsV RX5 40 RJx4a65c yJx4a65c_size_8abf5 wsJx4a65c_size_8abf5) := goodIn_app (goodIn_of _ (by decide +kernel)) ggX5_gatherCandidates_Jx4a65c_size_8abf5
set_option maxRecDepth 20000 in
theorem ggX5_gatherCandidates_Jx4a65c_get_915e3 : GoodIn wsX5_gatherCandidates wsJx4a65c_get_915e3 := goodIn_r _ [27, 19, 28, 29, 30, 31, 32, 33, 34, 35, 36, 37, 38, 14, 39, 18, 129, 130, 131] (by decide +kernel) (by decide +kernel)
set_option maxRecDepth 20000 in
theorem gX5_gatherCandidates_Jx4a65c_get_915e3 : GoodIn wsX5_gatherCandidates (wsV RX5 79 RJx4a65c yJx4a65c_get_915e3 wsJx4a65c_get_915e3) := goodIn_app (goodIn_of _ (by decide +kernel)) ggX5_gatherCandidates_Jx4a65c_get_915e3
set_option maxRecDepth 20000 in
theorem ggX5_gatherCandidates_X2_fitsAt : GoodIn wsX5_gatherCandidates wsX2_fitsAt := goodIn_r _ [44, 45, 46, 5, 47, 48, 49, 50, 43, 51, 52, 53, 21, 22, 14, 23, 19, 54, 55, 56, 57, 58, 59, 60, 25, 26, 27, 28, 29, 30, 31, 32, 33, 34, 35, 36, 37, 38, 39, 18, 61, 62, 63, 64, 65, 124, 125, 126, 127, 128, 129, 130, 131, 132, 133, 134, 135, 136, 137] (by decide +kernel) (by decide +kernel)
set_option maxRecDepth 20000 in
theorem gX5_gatherCandidates_X2_fitsAt : GoodIn wsX5_gatherCandidates (wsV RX5 127 RX2 yX2_fitsAt wsX2_fitsAt) := goodIn_app (goodIn_of _ (by decide +kernel)) ggX5_gatherCandidates_X2_fitsAt
set_option maxRecDepth 20000 in
theorem ggX5_gatherCandidates_Jx4a65c_add_9ea2d : GoodIn wsX5_gatherCandidates wsJx4a65c_add_9ea2d := goodIn_r _ [69, 16, 17, 18, 19, 70, 71, 72, 14, 73, 74, 75, 76, 77, 78, 79, 80, 81, 82, 83, 4, 5, 6, 84, 85, 86, 87, 88, 89, 90, 91, 92, 93, 94, 95, 96, 97, 98, 99, 100, 101, 102, 103, 104, 105, 106, 107, 108, 109, 110, 111, 112, 113, 129, 130, 131] (by decide +kernel) (by decide +kernel)
set_option maxRecDepth 20000 in
theorem gX5_gatherCandidates_Jx4a65c_add_9ea2d : GoodIn wsX5_gatherCandidates (wsV RX5 54 RJx4a65c yJx4a65c_add_9ea2d wsJx4a65c_add_9ea2d) := goodIn_app (goodIn_of _ (by decide +kernel)) ggX5_gatherCandidates_Jx4a65c_add_9ea2d
theorem dX5_gatherCandidates_0 : decode cX5_gatherCandidates 0 = .ok (.aload_n 0, 1) := by decide +kernel
theorem dX5_gatherCandidates_1 : decode cX5_gatherCandidates 1 = .ok (.getfield 25, 3) := by decide +kernel
theorem dX5_gatherCandidates_4 : decode cX5_gatherCandidates 4 = .ok (.getfield 218, 3) := by decide +kernel
theorem dX5_gatherCandidates_7 : decode cX5_gatherCandidates 7 = .ok (.invokevirtual 221, 3) := by decide +kernel
theorem dX5_gatherCandidates_10 : decode cX5_gatherCandidates 10 = .ok (.iconst 0, 1) := by decide +kernel
theorem dX5_gatherCandidates_11 : decode cX5_gatherCandidates 11 = .ok (.iload_n 2, 1) := by decide +kernel
theorem dX5_gatherCandidates_12 : decode cX5_gatherCandidates 12 = .ok (.invokestatic 115, 3) := by decide +kernel
theorem dX5_gatherCandidates_15 : decode cX5_gatherCandidates 15 = .ok (.istore_n 3, 1) := by decide +kernel
theorem dX5_gatherCandidates_16 : decode cX5_gatherCandidates 16 = .ok (.iload_n 3, 1) := by decide +kernel
theorem dX5_gatherCandidates_17 : decode cX5_gatherCandidates 17 = .ok (.aload_n 0, 1) := by decide +kernel
theorem dX5_gatherCandidates_18 : decode cX5_gatherCandidates 18 = .ok (.getfield 16, 3) := by decide +kernel
theorem dX5_gatherCandidates_21 : decode cX5_gatherCandidates 21 = .ok (.invokevirtual 40, 3) := by decide +kernel
theorem dX5_gatherCandidates_24 : decode cX5_gatherCandidates 24 = .ok (.if_icmp .ge 57, 3) := by decide +kernel
theorem dX5_gatherCandidates_27 : decode cX5_gatherCandidates 27 = .ok (.aload_n 0, 1) := by decide +kernel
theorem dX5_gatherCandidates_28 : decode cX5_gatherCandidates 28 = .ok (.getfield 16, 3) := by decide +kernel
theorem dX5_gatherCandidates_31 : decode cX5_gatherCandidates 31 = .ok (.iload_n 3, 1) := by decide +kernel
theorem dX5_gatherCandidates_32 : decode cX5_gatherCandidates 32 = .ok (.invokevirtual 79, 3) := by decide +kernel
theorem dX5_gatherCandidates_35 : decode cX5_gatherCandidates 35 = .ok (.checkcast 72, 3) := by decide +kernel
theorem dX5_gatherCandidates_38 : decode cX5_gatherCandidates 38 = .ok (.astore 4, 2) := by decide +kernel
theorem dX5_gatherCandidates_40 : decode cX5_gatherCandidates 40 = .ok (.aload 4, 2) := by decide +kernel
theorem dX5_gatherCandidates_42 : decode cX5_gatherCandidates 42 = .ok (.getfield 91, 3) := by decide +kernel
theorem dX5_gatherCandidates_45 : decode cX5_gatherCandidates 45 = .ok (.iconst 1, 1) := by decide +kernel
theorem dX5_gatherCandidates_46 : decode cX5_gatherCandidates 46 = .ok (.if_icmp .ne 29, 3) := by decide +kernel
theorem dX5_gatherCandidates_49 : decode cX5_gatherCandidates 49 = .ok (.aload 4, 2) := by decide +kernel
theorem dX5_gatherCandidates_51 : decode cX5_gatherCandidates 51 = .ok (.aload_n 0, 1) := by decide +kernel
theorem dX5_gatherCandidates_52 : decode cX5_gatherCandidates 52 = .ok (.getfield 29, 3) := by decide +kernel
theorem dX5_gatherCandidates_55 : decode cX5_gatherCandidates 55 = .ok (.aload_n 1, 1) := by decide +kernel
theorem dX5_gatherCandidates_56 : decode cX5_gatherCandidates 56 = .ok (.invokevirtual 127, 3) := by decide +kernel
theorem dX5_gatherCandidates_59 : decode cX5_gatherCandidates 59 = .ok (.ifCond .eq 16, 3) := by decide +kernel
theorem dX5_gatherCandidates_62 : decode cX5_gatherCandidates 62 = .ok (.aload_n 0, 1) := by decide +kernel
theorem dX5_gatherCandidates_63 : decode cX5_gatherCandidates 63 = .ok (.getfield 25, 3) := by decide +kernel
theorem dX5_gatherCandidates_66 : decode cX5_gatherCandidates 66 = .ok (.getfield 218, 3) := by decide +kernel
theorem dX5_gatherCandidates_69 : decode cX5_gatherCandidates 69 = .ok (.aload 4, 2) := by decide +kernel
theorem dX5_gatherCandidates_71 : decode cX5_gatherCandidates 71 = .ok (.invokevirtual 54, 3) := by decide +kernel
theorem dX5_gatherCandidates_74 : decode cX5_gatherCandidates 74 = .ok (.pop, 1) := by decide +kernel
theorem dX5_gatherCandidates_75 : decode cX5_gatherCandidates 75 = .ok (.iinc 3 1, 3) := by decide +kernel
theorem dX5_gatherCandidates_78 : decode cX5_gatherCandidates 78 = .ok (.goto (-62), 3) := by decide +kernel
theorem dX5_gatherCandidates_81 : decode cX5_gatherCandidates 81 = .ok (.return_, 1) := by decide +kernel
set_option maxRecDepth 20000 in
theorem ggX5_expire_X1_callOff : GoodIn wsX5_expire wsX1_callOff := goodIn_r _ [9, 10, 11, 12, 13, 8, 14, 15, 16, 17, 18, 19, 20, 21, 22, 23, 24, 25, 26, 27, 28, 29, 30, 31, 32, 33, 34, 35, 36, 37, 38, 39, 40, 65, 66, 67, 68, 69, 70, 71, 72, 73, 74, 75, 76, 77, 78, 79] (by decide +kernel) (by decide +kernel)
set_option maxRecDepth 20000 in
theorem gX5_expire_X1_callOff : GoodIn wsX5_expire (wsV RX5 156 RX1 yX1_callOff wsX1_callOff) := goodIn_app (goodIn_of _ (by decide +kernel)) ggX5_expire_X1_callOff
set_option maxRecDepth 20000 in
theorem ggX5_expire_Jx4a65c_size_8abf5 : GoodIn wsX5_expire wsJx4a65c_size_8abf5 := goodIn_r _ [22, 23, 77, 78, 79] (by decide +kernel) (by decide +kernel)
set_option maxRecDepth 20000 in
theorem gX5_expire_Jx4a65c_size_8abf5 : GoodIn wsX5_expire (wsV RX5 40 RJx4a65c yJx4a65c_size_8abf5 wsJx4a65c_size_8abf5) := goodIn_app (goodIn_of _ (by decide +kernel)) ggX5_expire_Jx4a65c_size_8abf5
set_option maxRecDepth 20000 in
theorem ggX5_expire_X5_has : GoodIn wsX5_expire wsX5_has := goodIn_r _ [45] (by decide +kernel) (by decide +kernel)
set_option maxRecDepth 20000 in
theorem gX5_expire_X5_has : GoodIn wsX5_expire (va_wsS RX5 75 yX5_has wsX5_has) := goodIn_app (goodIn_of _ (by decide +kernel)) ggX5_expire_X5_has
set_option maxRecDepth 20000 in
theorem ggX5_expire_Jx4a65c_get_915e3 : GoodIn wsX5_expire wsJx4a65c_get_915e3 := goodIn_r _ [27, 23, 28, 29, 30, 31, 32, 33, 34, 35, 36, 37, 38, 21, 39, 40, 77, 78, 79] (by decide +kernel) (by decide +kernel)
set_option maxRecDepth 20000 in
theorem gX5_expire_Jx4a65c_get_915e3 : GoodIn wsX5_expire (wsV RX5 79 RJx4a65c yJx4a65c_get_915e3 wsJx4a65c_get_915e3) := goodIn_app (goodIn_of _ (by decide +kernel)) ggX5_expire_Jx4a65c_get_915e3
set_option maxRecDepth 20000 in
theorem ggX5_expire_X3_penaliseAt : GoodIn wsX5_expire wsX3_penaliseAt := goodIn_r _ [51, 52, 53, 54, 55, 56, 57, 58, 59, 80, 81, 82, 83, 84, 85, 72, 73, 74, 75, 76] (by decide +kernel) (by decide +kernel)
set_option maxRecDepth 20000 in
theorem gX5_expire_X3_penaliseAt : GoodIn wsX5_expire (wsV RX5 159 RX3 yX3_penaliseAt wsX3_penaliseAt) := goodIn_app (goodIn_of _ (by decide +kernel)) ggX5_expire_X3_penaliseAt
theorem dX5_expire_0 : decode cX5_expire 0 = .ok (.aload_n 1, 1) := by decide +kernel
theorem dX5_expire_1 : decode cX5_expire 1 = .ok (.invokevirtual 156, 3) := by decide +kernel
theorem dX5_expire_4 : decode cX5_expire 4 = .ok (.iconst 0, 1) := by decide +kernel
theorem dX5_expire_5 : decode cX5_expire 5 = .ok (.istore_n 2, 1) := by decide +kernel
theorem dX5_expire_6 : decode cX5_expire 6 = .ok (.iload_n 2, 1) := by decide +kernel
theorem dX5_expire_7 : decode cX5_expire 7 = .ok (.aload_n 0, 1) := by decide +kernel
theorem dX5_expire_8 : decode cX5_expire 8 = .ok (.getfield 10, 3) := by decide +kernel
theorem dX5_expire_11 : decode cX5_expire 11 = .ok (.invokevirtual 40, 3) := by decide +kernel
theorem dX5_expire_14 : decode cX5_expire 14 = .ok (.if_icmp .ge 39, 3) := by decide +kernel
theorem dX5_expire_17 : decode cX5_expire 17 = .ok (.aload_n 1, 1) := by decide +kernel
theorem dX5_expire_18 : decode cX5_expire 18 = .ok (.getfield 224, 3) := by decide +kernel
theorem dX5_expire_21 : decode cX5_expire 21 = .ok (.iload_n 2, 1) := by decide +kernel
theorem dX5_expire_22 : decode cX5_expire 22 = .ok (.invokestatic 75, 3) := by decide +kernel
theorem dX5_expire_25 : decode cX5_expire 25 = .ok (.ifCond .eq 22, 3) := by decide +kernel
theorem dX5_expire_28 : decode cX5_expire 28 = .ok (.aload_n 0, 1) := by decide +kernel
theorem dX5_expire_29 : decode cX5_expire 29 = .ok (.getfield 10, 3) := by decide +kernel
theorem dX5_expire_32 : decode cX5_expire 32 = .ok (.iload_n 2, 1) := by decide +kernel
theorem dX5_expire_33 : decode cX5_expire 33 = .ok (.invokevirtual 79, 3) := by decide +kernel
theorem dX5_expire_36 : decode cX5_expire 36 = .ok (.checkcast 49, 3) := by decide +kernel
theorem dX5_expire_39 : decode cX5_expire 39 = .ok (.aload_n 1, 1) := by decide +kernel
theorem dX5_expire_40 : decode cX5_expire 40 = .ok (.getfield 193, 3) := by decide +kernel
theorem dX5_expire_43 : decode cX5_expire 43 = .ok (.invokevirtual 159, 3) := by decide +kernel
theorem dX5_expire_46 : decode cX5_expire 46 = .ok (.pop, 1) := by decide +kernel
theorem dX5_expire_47 : decode cX5_expire 47 = .ok (.iinc 2 1, 3) := by decide +kernel
theorem dX5_expire_50 : decode cX5_expire 50 = .ok (.goto (-44), 3) := by decide +kernel
theorem dX5_expire_53 : decode cX5_expire 53 = .ok (.return_, 1) := by decide +kernel
set_option maxRecDepth 20000 in
theorem ggX5_expectedShare_X5_meanRating : GoodIn wsX5_expectedShare wsX5_meanRating := goodIn_r _ [12, 13, 14, 15, 16, 17, 18, 19, 20, 21, 22, 23, 11, 24, 25, 26, 27, 28, 29, 30, 31, 32, 33, 34, 35, 36, 37, 38, 39, 40, 41, 42, 43, 44, 45, 46, 47, 48, 49, 50, 51, 52, 53, 54, 55] (by decide +kernel) (by decide +kernel)
set_option maxRecDepth 20000 in
theorem gX5_expectedShare_X5_meanRating : GoodIn wsX5_expectedShare (wsV RX5 227 RX5 yX5_meanRating wsX5_meanRating) := goodIn_app (goodIn_of _ (by decide +kernel)) ggX5_expectedShare_X5_meanRating
theorem dX5_expectedShare_0 : decode cX5_expectedShare 0 = .ok (.sipush 500, 3) := by decide +kernel
theorem dX5_expectedShare_3 : decode cX5_expectedShare 3 = .ok (.aload_n 0, 1) := by decide +kernel
theorem dX5_expectedShare_4 : decode cX5_expectedShare 4 = .ok (.iload_n 1, 1) := by decide +kernel
theorem dX5_expectedShare_5 : decode cX5_expectedShare 5 = .ok (.invokevirtual 227, 3) := by decide +kernel
theorem dX5_expectedShare_8 : decode cX5_expectedShare 8 = .ok (.iadd, 1) := by decide +kernel
theorem dX5_expectedShare_9 : decode cX5_expectedShare 9 = .ok (.aload_n 0, 1) := by decide +kernel
theorem dX5_expectedShare_10 : decode cX5_expectedShare 10 = .ok (.iload_n 2, 1) := by decide +kernel
theorem dX5_expectedShare_11 : decode cX5_expectedShare 11 = .ok (.invokevirtual 227, 3) := by decide +kernel
theorem dX5_expectedShare_14 : decode cX5_expectedShare 14 = .ok (.isub, 1) := by decide +kernel
theorem dX5_expectedShare_15 : decode cX5_expectedShare 15 = .ok (.istore_n 3, 1) := by decide +kernel
theorem dX5_expectedShare_16 : decode cX5_expectedShare 16 = .ok (.sipush 950, 3) := by decide +kernel
theorem dX5_expectedShare_19 : decode cX5_expectedShare 19 = .ok (.bipush 50, 2) := by decide +kernel
theorem dX5_expectedShare_21 : decode cX5_expectedShare 21 = .ok (.iload_n 3, 1) := by decide +kernel
theorem dX5_expectedShare_22 : decode cX5_expectedShare 22 = .ok (.invokestatic 115, 3) := by decide +kernel
theorem dX5_expectedShare_25 : decode cX5_expectedShare 25 = .ok (.invokestatic 230, 3) := by decide +kernel
theorem dX5_expectedShare_28 : decode cX5_expectedShare 28 = .ok (.ireturn, 1) := by decide +kernel
set_option maxRecDepth 20000 in
theorem ggX5_meanRating_Jx4a65c_size_8abf5 : GoodIn wsX5_meanRating wsJx4a65c_size_8abf5 := goodIn_r _ [8, 9, 42, 43, 44] (by decide +kernel) (by decide +kernel)
set_option maxRecDepth 20000 in
theorem gX5_meanRating_Jx4a65c_size_8abf5 : GoodIn wsX5_meanRating (wsV RX5 40 RJx4a65c yJx4a65c_size_8abf5 wsJx4a65c_size_8abf5) := goodIn_app (goodIn_of _ (by decide +kernel)) ggX5_meanRating_Jx4a65c_size_8abf5
set_option maxRecDepth 20000 in
theorem ggX5_meanRating_X5_has : GoodIn wsX5_meanRating wsX5_has := goodIn_r _ [13] (by decide +kernel) (by decide +kernel)
set_option maxRecDepth 20000 in
theorem gX5_meanRating_X5_has : GoodIn wsX5_meanRating (va_wsS RX5 75 yX5_has wsX5_has) := goodIn_app (goodIn_of _ (by decide +kernel)) ggX5_meanRating_X5_has
set_option maxRecDepth 20000 in
theorem ggX5_meanRating_Jx4a65c_get_915e3 : GoodIn wsX5_meanRating wsJx4a65c_get_915e3 := goodIn_r _ [17, 9, 18, 19, 20, 21, 22, 23, 24, 25, 26, 27, 28, 7, 29, 30, 42, 43, 44] (by decide +kernel) (by decide +kernel)
set_option maxRecDepth 20000 in
theorem gX5_meanRating_Jx4a65c_get_915e3 : GoodIn wsX5_meanRating (wsV RX5 79 RJx4a65c yJx4a65c_get_915e3 wsJx4a65c_get_915e3) := goodIn_app (goodIn_of _ (by decide +kernel)) ggX5_meanRating_Jx4a65c_get_915e3
theorem dX5_meanRating_0 : decode cX5_meanRating 0 = .ok (.iconst 0, 1) := by decide +kernel
theorem dX5_meanRating_1 : decode cX5_meanRating 1 = .ok (.istore_n 2, 1) := by decide +kernel
theorem dX5_meanRating_2 : decode cX5_meanRating 2 = .ok (.iconst 0, 1) := by decide +kernel
theorem dX5_meanRating_3 : decode cX5_meanRating 3 = .ok (.istore_n 3, 1) := by decide +kernel
theorem dX5_meanRating_4 : decode cX5_meanRating 4 = .ok (.iload_n 3, 1) := by decide +kernel
theorem dX5_meanRating_5 : decode cX5_meanRating 5 = .ok (.aload_n 0, 1) := by decide +kernel
theorem dX5_meanRating_6 : decode cX5_meanRating 6 = .ok (.getfield 10, 3) := by decide +kernel
theorem dX5_meanRating_9 : decode cX5_meanRating 9 = .ok (.invokevirtual 40, 3) := by decide +kernel
theorem dX5_meanRating_12 : decode cX5_meanRating 12 = .ok (.if_icmp .ge 34, 3) := by decide +kernel
theorem dX5_meanRating_15 : decode cX5_meanRating 15 = .ok (.iload_n 1, 1) := by decide +kernel
theorem dX5_meanRating_16 : decode cX5_meanRating 16 = .ok (.iload_n 3, 1) := by decide +kernel
theorem dX5_meanRating_17 : decode cX5_meanRating 17 = .ok (.invokestatic 75, 3) := by decide +kernel
theorem dX5_meanRating_20 : decode cX5_meanRating 20 = .ok (.ifCond .eq 20, 3) := by decide +kernel
theorem dX5_meanRating_23 : decode cX5_meanRating 23 = .ok (.iload_n 2, 1) := by decide +kernel
theorem dX5_meanRating_24 : decode cX5_meanRating 24 = .ok (.aload_n 0, 1) := by decide +kernel
theorem dX5_meanRating_25 : decode cX5_meanRating 25 = .ok (.getfield 10, 3) := by decide +kernel
theorem dX5_meanRating_28 : decode cX5_meanRating 28 = .ok (.iload_n 3, 1) := by decide +kernel
theorem dX5_meanRating_29 : decode cX5_meanRating 29 = .ok (.invokevirtual 79, 3) := by decide +kernel
theorem dX5_meanRating_32 : decode cX5_meanRating 32 = .ok (.checkcast 49, 3) := by decide +kernel
theorem dX5_meanRating_35 : decode cX5_meanRating 35 = .ok (.getfield 103, 3) := by decide +kernel
theorem dX5_meanRating_38 : decode cX5_meanRating 38 = .ok (.iadd, 1) := by decide +kernel
theorem dX5_meanRating_39 : decode cX5_meanRating 39 = .ok (.istore_n 2, 1) := by decide +kernel
theorem dX5_meanRating_40 : decode cX5_meanRating 40 = .ok (.iinc 3 1, 3) := by decide +kernel
theorem dX5_meanRating_43 : decode cX5_meanRating 43 = .ok (.goto (-39), 3) := by decide +kernel
theorem dX5_meanRating_46 : decode cX5_meanRating 46 = .ok (.iload_n 2, 1) := by decide +kernel
theorem dX5_meanRating_47 : decode cX5_meanRating 47 = .ok (.iconst 3, 1) := by decide +kernel
theorem dX5_meanRating_48 : decode cX5_meanRating 48 = .ok (.idiv, 1) := by decide +kernel
theorem dX5_meanRating_49 : decode cX5_meanRating 49 = .ok (.ireturn, 1) := by decide +kernel
set_option maxRecDepth 20000 in
theorem ggX5_learn_Jx4a65c_size_8abf5 : GoodIn wsX5_learn wsJx4a65c_size_8abf5 := goodIn_r _ [7, 8, 54, 55, 56] (by decide +kernel) (by decide +kernel)
set_option maxRecDepth 20000 in
theorem gX5_learn_Jx4a65c_size_8abf5 : GoodIn wsX5_learn (wsV RX5 40 RJx4a65c yJx4a65c_size_8abf5 wsJx4a65c_size_8abf5) := goodIn_app (goodIn_of _ (by decide +kernel)) ggX5_learn_Jx4a65c_size_8abf5
set_option maxRecDepth 20000 in
theorem ggX5_learn_X5_has : GoodIn wsX5_learn wsX5_has := goodIn_r _ [12] (by decide +kernel) (by decide +kernel)
set_option maxRecDepth 20000 in
theorem gX5_learn_X5_has : GoodIn wsX5_learn (va_wsS RX5 75 yX5_has wsX5_has) := goodIn_app (goodIn_of _ (by decide +kernel)) ggX5_learn_X5_has
set_option maxRecDepth 20000 in
theorem ggX5_learn_Jx4a65c_get_915e3 : GoodIn wsX5_learn wsJx4a65c_get_915e3 := goodIn_r _ [16, 8, 17, 18, 19, 20, 21, 22, 23, 24, 25, 26, 27, 6, 28, 29, 54, 55, 56] (by decide +kernel) (by decide +kernel)
set_option maxRecDepth 20000 in
theorem gX5_learn_Jx4a65c_get_915e3 : GoodIn wsX5_learn (wsV RX5 79 RJx4a65c yJx4a65c_get_915e3 wsJx4a65c_get_915e3) := goodIn_app (goodIn_of _ (by decide +kernel)) ggX5_learn_Jx4a65c_get_915e3
set_option maxRecDepth 20000 in
theorem ggX5_learn_X3_learn : GoodIn wsX5_learn wsX3_learn := goodIn_r _ [34, 35, 36, 37, 38, 39, 40, 41, 42, 43, 44, 45, 46, 47, 48, 57, 58, 59, 60, 61, 62] (by decide +kernel) (by decide +kernel)
set_option maxRecDepth 20000 in
theorem gX5_learn_X3_learn : GoodIn wsX5_learn (wsV RX5 233 RX3 yX3_learn wsX3_learn) := goodIn_app (goodIn_of _ (by decide +kernel)) ggX5_learn_X3_learn
theorem dX5_learn_0 : decode cX5_learn 0 = .ok (.iconst 0, 1) := by decide +kernel
theorem dX5_learn_1 : decode cX5_learn 1 = .ok (.istore_n 3, 1) := by decide +kernel
theorem dX5_learn_2 : decode cX5_learn 2 = .ok (.iload_n 3, 1) := by decide +kernel
theorem dX5_learn_3 : decode cX5_learn 3 = .ok (.aload_n 0, 1) := by decide +kernel
theorem dX5_learn_4 : decode cX5_learn 4 = .ok (.getfield 10, 3) := by decide +kernel
theorem dX5_learn_7 : decode cX5_learn 7 = .ok (.invokevirtual 40, 3) := by decide +kernel
theorem dX5_learn_10 : decode cX5_learn 10 = .ok (.if_icmp .ge 32, 3) := by decide +kernel
theorem dX5_learn_13 : decode cX5_learn 13 = .ok (.iload_n 1, 1) := by decide +kernel
theorem dX5_learn_14 : decode cX5_learn 14 = .ok (.iload_n 3, 1) := by decide +kernel
theorem dX5_learn_15 : decode cX5_learn 15 = .ok (.invokestatic 75, 3) := by decide +kernel
theorem dX5_learn_18 : decode cX5_learn 18 = .ok (.ifCond .eq 18, 3) := by decide +kernel
theorem dX5_learn_21 : decode cX5_learn 21 = .ok (.aload_n 0, 1) := by decide +kernel
theorem dX5_learn_22 : decode cX5_learn 22 = .ok (.getfield 10, 3) := by decide +kernel
theorem dX5_learn_25 : decode cX5_learn 25 = .ok (.iload_n 3, 1) := by decide +kernel
theorem dX5_learn_26 : decode cX5_learn 26 = .ok (.invokevirtual 79, 3) := by decide +kernel
theorem dX5_learn_29 : decode cX5_learn 29 = .ok (.checkcast 49, 3) := by decide +kernel
theorem dX5_learn_32 : decode cX5_learn 32 = .ok (.iload_n 2, 1) := by decide +kernel
theorem dX5_learn_33 : decode cX5_learn 33 = .ok (.invokevirtual 233, 3) := by decide +kernel
theorem dX5_learn_36 : decode cX5_learn 36 = .ok (.iinc 3 1, 3) := by decide +kernel
theorem dX5_learn_39 : decode cX5_learn 39 = .ok (.goto (-37), 3) := by decide +kernel
theorem dX5_learn_42 : decode cX5_learn 42 = .ok (.return_, 1) := by decide +kernel
