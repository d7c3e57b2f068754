theorem goodIn_c {big a : List Cond} {c : Cond} (h : c ∈ big) (hg : goodWord c = true) (ha : GoodIn big a) : GoodIn big (c :: a) := fun w hw => (List.mem_cons.mp hw).elim (fun e => by subst e; exact ⟨h, good_of_word hg⟩) (ha w)
theorem goodIn_1 {big : List Cond} {c : Cond} (h : c ∈ big) (hg : goodWord c = true) : GoodIn big [c] := goodIn_c h hg (fun _ q => absurd q List.not_mem_nil)
set_option maxRecDepth 20000 in
theorem ggL_makes_L_queues : GoodIn wsL_makes wsL_queues := goodIn_r _ [5] (by decide +kernel) (by decide +kernel)
set_option maxRecDepth 20000 in
theorem gL_makes_L_queues : GoodIn wsL_makes (va_wsS RL 77 yL_queues wsL_queues) := goodIn_app (goodIn_of _ (by decide +kernel)) ggL_makes_L_queues
set_option maxRecDepth 20000 in
theorem ggL_makes_L_players : GoodIn wsL_makes wsL_players := goodIn_r _ [8, 9] (by decide +kernel) (by decide +kernel)
set_option maxRecDepth 20000 in
theorem gL_makes_L_players : GoodIn wsL_makes (va_wsS RL 54 yL_players wsL_players) := goodIn_app (goodIn_of _ (by decide +kernel)) ggL_makes_L_players
set_option maxRecDepth 20000 in
theorem ggL_makes_L_size : GoodIn wsL_makes wsL_size := goodIn_r _ [12] (by decide +kernel) (by decide +kernel)
set_option maxRecDepth 20000 in
theorem gL_makes_L_size : GoodIn wsL_makes (va_wsS RL 62 yL_size wsL_size) := goodIn_app (goodIn_of _ (by decide +kernel)) ggL_makes_L_size
set_option maxRecDepth 20000 in
theorem ggL_makes_X5_make : GoodIn wsL_makes wsX5_make := goodIn_r _ [17, 18, 19, 20, 21, 22, 23, 24, 25, 26, 27, 28, 29, 30, 31, 32, 33, 34, 35, 36, 37, 38, 39, 40, 41, 42, 43, 44, 45, 46, 47, 48, 49, 16, 50, 51, 52, 53, 54, 55, 56, 57, 58, 59, 60, 61, 62, 63, 64, 65, 66, 67, 68, 69, 70, 71, 72, 73, 74, 75, 76, 77, 78, 79, 80, 81, 82, 83, 84, 85, 86, 87, 88, 89, 90, 91, 92, 93, 94, 95, 96, 97, 98, 99, 100, 101, 102, 103, 104, 105, 106, 107, 108, 109, 110, 111, 112, 113, 114, 115, 116, 117, 118, 119, 120, 121, 122, 123, 124, 125, 126, 127, 128, 129, 130, 131, 132, 133, 134, 135, 136, 137, 138, 139, 140, 141, 142, 143, 144, 145, 146, 147, 148, 149, 150, 151, 152, 153, 154, 155, 156, 157, 158, 159, 160, 161, 162, 163, 164, 165, 166, 167, 168, 169, 170, 171, 172, 173, 174, 175, 176, 177, 178, 179, 180, 181, 182, 183, 184, 185, 186, 187, 188, 189, 190, 191, 192, 193, 194, 195, 196, 197, 198, 199, 200, 201, 202, 203, 204, 205, 206, 207, 208, 209, 210, 211, 212, 213, 214, 215, 216, 217, 218, 219, 220, 221, 222, 223, 224, 225, 226, 227, 228, 229, 230, 231, 232, 233, 234, 235, 236, 237, 238, 297, 298, 299, 300, 301, 302, 303, 304, 305, 306, 307, 308, 309, 310, 311, 312, 313, 314, 315, 316, 317, 318, 319, 320, 321, 322, 323, 324, 325, 326, 327] (by decide +kernel) (by decide +kernel)
set_option maxRecDepth 20000 in
theorem gL_makes_X5_make : GoodIn wsL_makes (wsV RL 120 RX5 yX5_make wsX5_make) := goodIn_app (goodIn_of _ (by decide +kernel)) ggL_makes_X5_make
set_option maxRecDepth 20000 in
theorem ggL_makes_X5_matches : GoodIn wsL_makes wsX5_matches := goodIn_r _ [242, 22, 24, 25, 26, 27, 28, 29, 297, 298, 299, 300, 301, 307, 308, 309] (by decide +kernel) (by decide +kernel)
set_option maxRecDepth 20000 in
theorem gL_makes_X5_matches : GoodIn wsL_makes (wsV RL 74 RX5 yX5_matches wsX5_matches) := goodIn_app (goodIn_of _ (by decide +kernel)) ggL_makes_X5_matches
set_option maxRecDepth 20000 in
theorem ggL_makes_L_isMatch : GoodIn wsL_makes wsL_isMatch := goodIn_ca (goodIn_ca (goodIn_c (List.mem_of_getElem? (i := 245) (by rfl)) (by decide +kernel) (goodIn_app (goodIn_app (goodIn_app (goodIn_app (goodIn_app (goodIn_r wsL_isMatch_r1 [246, 247, 248, 16, 249, 250, 251, 252, 253, 254, 255, 256, 257, 22, 258, 24, 25, 26, 27, 28, 29, 30, 31, 32] (by decide +kernel) (by decide +kernel)) (goodIn_app (show GoodIn wsL_makes (([Cond.code yJx4a65c_get_915e3 cJx4a65c_get_915e3 2 (some (.object "java/lang/Object")), Cond.methodLink RJx4a65c 118 yJ15_checkIndex_7cf53, Cond.static yJ15_checkIndex_7cf53, Cond.initialized RJ15, Cond.code yJ15_checkIndex_7cf53 cJ15_checkIndex_7cf53 2 (some .int), Cond.methodLink RJ15 105 yJ3_checkIndex_8e157, Cond.static yJ3_checkIndex_8e157, Cond.initialized RJ3, Cond.code yJ3_checkIndex_8e157 cJ3_checkIndex_8e157 3 (some .int), Cond.methodLink RJx4a65c 123 yJx4a65c_elementData_915e3, Cond.instanceMethod yJx4a65c_elementData_915e3, Cond.selects RJx4a65c yJx4a65c_elementData_915e3 yJx4a65c_elementData_915e3, Cond.code yJx4a65c_elementData_915e3 cJx4a65c_elementData_915e3 2 (some (.object "java/lang/Object")), Cond.fieldLink RJx4a65c 9 "java/util/ArrayList" "elementData" "[Ljava/lang/Object;", Cond.methodLink RX5 165 yX5_checkTeam, Cond.static yX5_checkTeam, Cond.code yX5_checkTeam cX5_checkTeam 1 none, Cond.classLink RX5 33 "java/lang/IllegalArgumentException", Cond.initialized "java/lang/IllegalArgumentException", Cond.methodLink RL 113 yL_isTeam, Cond.static yL_isTeam, Cond.initialized RL] ++ ([Cond.code yL_isTeam cL_isTeam 9 (some .boolean)] ++ [Cond.arrayClass .int])) : List Cond) from (goodIn_app (goodIn_r _ [33, 34, 35, 36, 37, 38, 39, 40, 41, 42, 43, 44, 45, 46, 259, 260, 261, 262, 263, 264, 265, 4] (by decide +kernel) (by decide +kernel)) (goodIn_app (goodIn_1 (List.mem_of_getElem? (i := 266) (by rfl)) (by decide +kernel)) (goodIn_r _ [267] (by decide +kernel) (by decide +kernel))))) (goodIn_app (goodIn_r wsL_isMatch_r3 [268, 269, 270, 10, 11, 12, 2, 3, 5, 6, 7, 8, 9, 271, 272, 273, 274, 275, 276, 277, 278, 279, 280, 281] (by decide +kernel) (by decide +kernel)) (goodIn_r wsL_isMatch_r4 [282, 283, 284, 285, 286, 287, 288, 289, 290, 291, 292, 293, 294, 295, 296] (by decide +kernel) (by decide +kernel))))) (goodIn_r wsX10 [321, 322, 323, 324, 325, 326, 327] (by decide +kernel) (by decide +kernel))) (goodIn_r wsX50 [297, 298, 299, 300, 301] (by decide +kernel) (by decide +kernel))) (goodIn_r wsJx4a65c0 [307, 308, 309] (by decide +kernel) (by decide +kernel))) (goodIn_r wsX30 [315, 316, 317, 318, 319, 320] (by decide +kernel) (by decide +kernel)))) (goodIn_sub (fun _ h => List.mem_cons_of_mem _ (List.mem_append_left _ (List.mem_append_right _ h))) (by decide +kernel))) (goodIn_sub (fun _ h => List.mem_cons_of_mem _ (List.mem_append_right _ h)) (by decide +kernel))
set_option maxRecDepth 20000 in
theorem gL_makes_L_isMatch : GoodIn wsL_makes (va_wsS RL 123 yL_isMatch wsL_isMatch) := goodIn_app (goodIn_of _ (by decide +kernel)) ggL_makes_L_isMatch
set_option maxRecDepth 20000 in
theorem ggL_makes_X5_team : GoodIn wsL_makes wsX5_team := goodIn_ca (goodIn_ca (goodIn_r _ [249, 250, 251, 252, 253, 254, 16, 255, 256, 257, 22, 258, 24, 25, 26, 27, 28, 29, 30, 31, 32, 33, 34, 35, 36, 37, 38, 39, 40, 41, 42, 43, 44, 45, 46, 259, 260, 261, 262, 263, 321, 322, 323, 324, 325, 326, 327, 297, 298, 299, 300, 301, 307, 308, 309] (by decide +kernel) (by decide +kernel)) (goodIn_sub (fun _ h => List.mem_cons_of_mem _ (List.mem_append_left _ (List.mem_append_right _ h))) (by decide +kernel))) (goodIn_sub (fun _ h => List.mem_cons_of_mem _ (List.mem_append_right _ h)) (by decide +kernel))
set_option maxRecDepth 20000 in
theorem gL_makes_X5_team : GoodIn wsL_makes (wsV RL 88 RX5 yX5_team wsX5_team) := goodIn_app (goodIn_of _ (by decide +kernel)) ggL_makes_X5_team
theorem dL_makes_0 : decode cL_makes 0 = .ok (.iconst 0, 1) := by decide +kernel
theorem dL_makes_1 : decode cL_makes 1 = .ok (.istore 5, 2) := by decide +kernel
theorem dL_makes_3 : decode cL_makes 3 = .ok (.iconst 0, 1) := by decide +kernel
theorem dL_makes_4 : decode cL_makes 4 = .ok (.istore 6, 2) := by decide +kernel
theorem dL_makes_6 : decode cL_makes 6 = .ok (.iload 6, 2) := by decide +kernel
theorem dL_makes_8 : decode cL_makes 8 = .ok (.aload 4, 2) := by decide +kernel
theorem dL_makes_10 : decode cL_makes 10 = .ok (.iconst 2, 1) := by decide +kernel
theorem dL_makes_11 : decode cL_makes 11 = .ok (.iaload, 1) := by decide +kernel
theorem dL_makes_12 : decode cL_makes 12 = .ok (.if_icmp .ge 36, 3) := by decide +kernel
theorem dL_makes_15 : decode cL_makes 15 = .ok (.iload 5, 2) := by decide +kernel
theorem dL_makes_17 : decode cL_makes 17 = .ok (.aload_n 1, 1) := by decide +kernel
theorem dL_makes_18 : decode cL_makes 18 = .ok (.iload 6, 2) := by decide +kernel
theorem dL_makes_20 : decode cL_makes 20 = .ok (.invokestatic 77, 3) := by decide +kernel
theorem dL_makes_23 : decode cL_makes 23 = .ok (.ifCond .eq 15, 3) := by decide +kernel
theorem dL_makes_26 : decode cL_makes 26 = .ok (.aload_n 1, 1) := by decide +kernel
theorem dL_makes_27 : decode cL_makes 27 = .ok (.iload 6, 2) := by decide +kernel
theorem dL_makes_29 : decode cL_makes 29 = .ok (.invokestatic 54, 3) := by decide +kernel
theorem dL_makes_32 : decode cL_makes 32 = .ok (.invokestatic 62, 3) := by decide +kernel
theorem dL_makes_35 : decode cL_makes 35 = .ok (.goto 4, 3) := by decide +kernel
theorem dL_makes_38 : decode cL_makes 38 = .ok (.iconst 0, 1) := by decide +kernel
theorem dL_makes_39 : decode cL_makes 39 = .ok (.iadd, 1) := by decide +kernel
theorem dL_makes_40 : decode cL_makes 40 = .ok (.istore 5, 2) := by decide +kernel
theorem dL_makes_42 : decode cL_makes 42 = .ok (.iinc 6 1, 3) := by decide +kernel
theorem dL_makes_45 : decode cL_makes 45 = .ok (.goto (-39), 3) := by decide +kernel
theorem dL_makes_48 : decode cL_makes 48 = .ok (.aload_n 0, 1) := by decide +kernel
theorem dL_makes_49 : decode cL_makes 49 = .ok (.invokevirtual 120, 3) := by decide +kernel
theorem dL_makes_52 : decode cL_makes 52 = .ok (.istore 6, 2) := by decide +kernel
theorem dL_makes_54 : decode cL_makes 54 = .ok (.iload 6, 2) := by decide +kernel
theorem dL_makes_56 : decode cL_makes 56 = .ok (.iconst (-1), 1) := by decide +kernel
theorem dL_makes_57 : decode cL_makes 57 = .ok (.if_icmp .ne 20, 3) := by decide +kernel
theorem dL_makes_60 : decode cL_makes 60 = .ok (.aload_n 0, 1) := by decide +kernel
theorem dL_makes_61 : decode cL_makes 61 = .ok (.invokevirtual 74, 3) := by decide +kernel
theorem dL_makes_64 : decode cL_makes 64 = .ok (.aload 4, 2) := by decide +kernel
theorem dL_makes_66 : decode cL_makes 66 = .ok (.iconst 3, 1) := by decide +kernel
theorem dL_makes_67 : decode cL_makes 67 = .ok (.iaload, 1) := by decide +kernel
theorem dL_makes_68 : decode cL_makes 68 = .ok (.if_icmp .ne 7, 3) := by decide +kernel
theorem dL_makes_71 : decode cL_makes 71 = .ok (.iconst 1, 1) := by decide +kernel
theorem dL_makes_72 : decode cL_makes 72 = .ok (.goto 4, 3) := by decide +kernel
theorem dL_makes_75 : decode cL_makes 75 = .ok (.iconst 0, 1) := by decide +kernel
theorem dL_makes_76 : decode cL_makes 76 = .ok (.ireturn, 1) := by decide +kernel
theorem dL_makes_77 : decode cL_makes 77 = .ok (.iload 5, 2) := by decide +kernel
theorem dL_makes_79 : decode cL_makes 79 = .ok (.bipush 6, 2) := by decide +kernel
theorem dL_makes_81 : decode cL_makes 81 = .ok (.if_icmp .lt 29, 3) := by decide +kernel
theorem dL_makes_84 : decode cL_makes 84 = .ok (.iload 6, 2) := by decide +kernel
theorem dL_makes_86 : decode cL_makes 86 = .ok (.aload 4, 2) := by decide +kernel
theorem dL_makes_88 : decode cL_makes 88 = .ok (.iconst 3, 1) := by decide +kernel
theorem dL_makes_89 : decode cL_makes 89 = .ok (.iaload, 1) := by decide +kernel
theorem dL_makes_90 : decode cL_makes 90 = .ok (.if_icmp .ne 20, 3) := by decide +kernel
theorem dL_makes_93 : decode cL_makes 93 = .ok (.aload_n 0, 1) := by decide +kernel
theorem dL_makes_94 : decode cL_makes 94 = .ok (.aload_n 1, 1) := by decide +kernel
theorem dL_makes_95 : decode cL_makes 95 = .ok (.aload_n 3, 1) := by decide +kernel
theorem dL_makes_96 : decode cL_makes 96 = .ok (.aload 4, 2) := by decide +kernel
theorem dL_makes_98 : decode cL_makes 98 = .ok (.iload 6, 2) := by decide +kernel
theorem dL_makes_100 : decode cL_makes 100 = .ok (.invokestatic 123, 3) := by decide +kernel
theorem dL_makes_103 : decode cL_makes 103 = .ok (.ifCond .eq 7, 3) := by decide +kernel
theorem dL_makes_106 : decode cL_makes 106 = .ok (.iconst 1, 1) := by decide +kernel
theorem dL_makes_107 : decode cL_makes 107 = .ok (.goto 4, 3) := by decide +kernel
theorem dL_makes_110 : decode cL_makes 110 = .ok (.iconst 0, 1) := by decide +kernel
theorem dL_makes_111 : decode cL_makes 111 = .ok (.istore 7, 2) := by decide +kernel
theorem dL_makes_113 : decode cL_makes 113 = .ok (.aload_n 0, 1) := by decide +kernel
theorem dL_makes_114 : decode cL_makes 114 = .ok (.iload 6, 2) := by decide +kernel
theorem dL_makes_116 : decode cL_makes 116 = .ok (.iconst 0, 1) := by decide +kernel
theorem dL_makes_117 : decode cL_makes 117 = .ok (.invokevirtual 88, 3) := by decide +kernel
theorem dL_makes_120 : decode cL_makes 120 = .ok (.aload_n 0, 1) := by decide +kernel
theorem dL_makes_121 : decode cL_makes 121 = .ok (.iload 6, 2) := by decide +kernel
theorem dL_makes_123 : decode cL_makes 123 = .ok (.iconst 1, 1) := by decide +kernel
theorem dL_makes_124 : decode cL_makes 124 = .ok (.invokevirtual 88, 3) := by decide +kernel
theorem dL_makes_127 : decode cL_makes 127 = .ok (.ior, 1) := by decide +kernel
theorem dL_makes_128 : decode cL_makes 128 = .ok (.istore 8, 2) := by decide +kernel
theorem dL_makes_130 : decode cL_makes 130 = .ok (.iconst 0, 1) := by decide +kernel
theorem dL_makes_131 : decode cL_makes 131 = .ok (.istore 9, 2) := by decide +kernel
theorem dL_makes_133 : decode cL_makes 133 = .ok (.iload 9, 2) := by decide +kernel
theorem dL_makes_135 : decode cL_makes 135 = .ok (.aload 4, 2) := by decide +kernel
theorem dL_makes_137 : decode cL_makes 137 = .ok (.iconst 2, 1) := by decide +kernel
theorem dL_makes_138 : decode cL_makes 138 = .ok (.iaload, 1) := by decide +kernel
theorem dL_makes_139 : decode cL_makes 139 = .ok (.if_icmp .ge 58, 3) := by decide +kernel
theorem dL_makes_142 : decode cL_makes 142 = .ok (.aload_n 1, 1) := by decide +kernel
theorem dL_makes_143 : decode cL_makes 143 = .ok (.iload 9, 2) := by decide +kernel
theorem dL_makes_145 : decode cL_makes 145 = .ok (.aload_n 1, 1) := by decide +kernel
theorem dL_makes_146 : decode cL_makes 146 = .ok (.iload 9, 2) := by decide +kernel
theorem dL_makes_148 : decode cL_makes 148 = .ok (.invokestatic 77, 3) := by decide +kernel
theorem dL_makes_151 : decode cL_makes 151 = .ok (.ifCond .eq 35, 3) := by decide +kernel
theorem dL_makes_154 : decode cL_makes 154 = .ok (.aload_n 1, 1) := by decide +kernel
theorem dL_makes_155 : decode cL_makes 155 = .ok (.iload 9, 2) := by decide +kernel
theorem dL_makes_157 : decode cL_makes 157 = .ok (.invokestatic 54, 3) := by decide +kernel
theorem dL_makes_160 : decode cL_makes 160 = .ok (.iload 8, 2) := by decide +kernel
theorem dL_makes_162 : decode cL_makes 162 = .ok (.iand, 1) := by decide +kernel
theorem dL_makes_163 : decode cL_makes 163 = .ok (.ifCond .eq 23, 3) := by decide +kernel
theorem dL_makes_166 : decode cL_makes 166 = .ok (.aload_n 1, 1) := by decide +kernel
theorem dL_makes_167 : decode cL_makes 167 = .ok (.iload 9, 2) := by decide +kernel
theorem dL_makes_169 : decode cL_makes 169 = .ok (.laload, 1) := by decide +kernel
theorem dL_makes_170 : decode cL_makes 170 = .ok (.ldc2_w 127, 3) := by decide +kernel
theorem dL_makes_173 : decode cL_makes 173 = .ok (.land, 1) := by decide +kernel
theorem dL_makes_174 : decode cL_makes 174 = .ok (.iload 6, 2) := by decide +kernel
theorem dL_makes_176 : decode cL_makes 176 = .ok (.iconst 1, 1) := by decide +kernel
theorem dL_makes_177 : decode cL_makes 177 = .ok (.iadd, 1) := by decide +kernel
theorem dL_makes_178 : decode cL_makes 178 = .ok (.i2l, 1) := by decide +kernel
theorem dL_makes_179 : decode cL_makes 179 = .ok (.bipush 41, 2) := by decide +kernel
theorem dL_makes_181 : decode cL_makes 181 = .ok (.lshl, 1) := by decide +kernel
theorem dL_makes_182 : decode cL_makes 182 = .ok (.lor, 1) := by decide +kernel
theorem dL_makes_183 : decode cL_makes 183 = .ok (.goto 7, 3) := by decide +kernel
theorem dL_makes_186 : decode cL_makes 186 = .ok (.aload_n 1, 1) := by decide +kernel
theorem dL_makes_187 : decode cL_makes 187 = .ok (.iload 9, 2) := by decide +kernel
theorem dL_makes_189 : decode cL_makes 189 = .ok (.laload, 1) := by decide +kernel
theorem dL_makes_190 : decode cL_makes 190 = .ok (.lastore, 1) := by decide +kernel
theorem dL_makes_191 : decode cL_makes 191 = .ok (.iinc 9 1, 3) := by decide +kernel
theorem dL_makes_194 : decode cL_makes 194 = .ok (.goto (-61), 3) := by decide +kernel
theorem dL_makes_197 : decode cL_makes 197 = .ok (.aload_n 2, 1) := by decide +kernel
theorem dL_makes_198 : decode cL_makes 198 = .ok (.aload 4, 2) := by decide +kernel
theorem dL_makes_200 : decode cL_makes 200 = .ok (.iconst 3, 1) := by decide +kernel
theorem dL_makes_201 : decode cL_makes 201 = .ok (.iaload, 1) := by decide +kernel
theorem dL_makes_202 : decode cL_makes 202 = .ok (.iload 8, 2) := by decide +kernel
theorem dL_makes_204 : decode cL_makes 204 = .ok (.iastore, 1) := by decide +kernel
theorem dL_makes_205 : decode cL_makes 205 = .ok (.aload 4, 2) := by decide +kernel
theorem dL_makes_207 : decode cL_makes 207 = .ok (.iconst 3, 1) := by decide +kernel
theorem dL_makes_208 : decode cL_makes 208 = .ok (.dup2, 1) := by decide +kernel
theorem dL_makes_209 : decode cL_makes 209 = .ok (.iaload, 1) := by decide +kernel
theorem dL_makes_210 : decode cL_makes 210 = .ok (.iconst 1, 1) := by decide +kernel
theorem dL_makes_211 : decode cL_makes 211 = .ok (.iadd, 1) := by decide +kernel
theorem dL_makes_212 : decode cL_makes 212 = .ok (.iastore, 1) := by decide +kernel
theorem dL_makes_213 : decode cL_makes 213 = .ok (.iload 7, 2) := by decide +kernel
theorem dL_makes_215 : decode cL_makes 215 = .ok (.ireturn, 1) := by decide +kernel
set_option maxRecDepth 20000 in
theorem ggL_ends_L_players : GoodIn wsL_ends wsL_players := goodIn_r _ [8, 9] (by decide +kernel) (by decide +kernel)
set_option maxRecDepth 20000 in
theorem gL_ends_L_players : GoodIn wsL_ends (va_wsS RL 54 yL_players wsL_players) := goodIn_app (goodIn_of _ (by decide +kernel)) ggL_ends_L_players
theorem dL_ends_0 : decode cL_ends 0 = .ok (.aload_n 1, 1) := by decide +kernel
theorem dL_ends_1 : decode cL_ends 1 = .ok (.iload_n 3, 1) := by decide +kernel
theorem dL_ends_2 : decode cL_ends 2 = .ok (.aload_n 1, 1) := by decide +kernel
theorem dL_ends_3 : decode cL_ends 3 = .ok (.iload_n 3, 1) := by decide +kernel
theorem dL_ends_4 : decode cL_ends 4 = .ok (.iaload, 1) := by decide +kernel
theorem dL_ends_5 : decode cL_ends 5 = .ok (.ldc 91, 2) := by decide +kernel
theorem dL_ends_7 : decode cL_ends 7 = .ok (.iand, 1) := by decide +kernel
theorem dL_ends_8 : decode cL_ends 8 = .ok (.ldc 129, 2) := by decide +kernel
theorem dL_ends_10 : decode cL_ends 10 = .ok (.ior, 1) := by decide +kernel
theorem dL_ends_11 : decode cL_ends 11 = .ok (.iastore, 1) := by decide +kernel
theorem dL_ends_12 : decode cL_ends 12 = .ok (.iconst 0, 1) := by decide +kernel
theorem dL_ends_13 : decode cL_ends 13 = .ok (.istore 5, 2) := by decide +kernel
theorem dL_ends_15 : decode cL_ends 15 = .ok (.iload 5, 2) := by decide +kernel
theorem dL_ends_17 : decode cL_ends 17 = .ok (.aload_n 2, 1) := by decide +kernel
theorem dL_ends_18 : decode cL_ends 18 = .ok (.iconst 2, 1) := by decide +kernel
theorem dL_ends_19 : decode cL_ends 19 = .ok (.iaload, 1) := by decide +kernel
theorem dL_ends_20 : decode cL_ends 20 = .ok (.if_icmp .ge 56, 3) := by decide +kernel
theorem dL_ends_23 : decode cL_ends 23 = .ok (.aload_n 0, 1) := by decide +kernel
theorem dL_ends_24 : decode cL_ends 24 = .ok (.iload 5, 2) := by decide +kernel
theorem dL_ends_26 : decode cL_ends 26 = .ok (.laload, 1) := by decide +kernel
theorem dL_ends_27 : decode cL_ends 27 = .ok (.bipush 41, 2) := by decide +kernel
theorem dL_ends_29 : decode cL_ends 29 = .ok (.lshr, 1) := by decide +kernel
theorem dL_ends_30 : decode cL_ends 30 = .ok (.iload_n 3, 1) := by decide +kernel
theorem dL_ends_31 : decode cL_ends 31 = .ok (.i2l, 1) := by decide +kernel
theorem dL_ends_32 : decode cL_ends 32 = .ok (.lconst 1, 1) := by decide +kernel
theorem dL_ends_33 : decode cL_ends 33 = .ok (.ladd, 1) := by decide +kernel
theorem dL_ends_34 : decode cL_ends 34 = .ok (.lcmp, 1) := by decide +kernel
theorem dL_ends_35 : decode cL_ends 35 = .ok (.ifCond .ne 35, 3) := by decide +kernel
theorem dL_ends_38 : decode cL_ends 38 = .ok (.aload_n 0, 1) := by decide +kernel
theorem dL_ends_39 : decode cL_ends 39 = .ok (.iload 5, 2) := by decide +kernel
theorem dL_ends_41 : decode cL_ends 41 = .ok (.aload_n 0, 1) := by decide +kernel
theorem dL_ends_42 : decode cL_ends 42 = .ok (.iload 5, 2) := by decide +kernel
theorem dL_ends_44 : decode cL_ends 44 = .ok (.laload, 1) := by decide +kernel
theorem dL_ends_45 : decode cL_ends 45 = .ok (.ldc2_w 130, 3) := by decide +kernel
theorem dL_ends_48 : decode cL_ends 48 = .ok (.land, 1) := by decide +kernel
theorem dL_ends_49 : decode cL_ends 49 = .ok (.aload_n 0, 1) := by decide +kernel
theorem dL_ends_50 : decode cL_ends 50 = .ok (.iload 5, 2) := by decide +kernel
theorem dL_ends_52 : decode cL_ends 52 = .ok (.invokestatic 54, 3) := by decide +kernel
theorem dL_ends_55 : decode cL_ends 55 = .ok (.iload 4, 2) := by decide +kernel
theorem dL_ends_57 : decode cL_ends 57 = .ok (.iand, 1) := by decide +kernel
theorem dL_ends_58 : decode cL_ends 58 = .ok (.ifCond .ne 9, 3) := by decide +kernel
theorem dL_ends_61 : decode cL_ends 61 = .ok (.ldc2_w 132, 3) := by decide +kernel
theorem dL_ends_64 : decode cL_ends 64 = .ok (.goto 4, 3) := by decide +kernel
theorem dL_ends_67 : decode cL_ends 67 = .ok (.lconst 0, 1) := by decide +kernel
theorem dL_ends_68 : decode cL_ends 68 = .ok (.lor, 1) := by decide +kernel
theorem dL_ends_69 : decode cL_ends 69 = .ok (.lastore, 1) := by decide +kernel
theorem dL_ends_70 : decode cL_ends 70 = .ok (.iinc 5 1, 3) := by decide +kernel
theorem dL_ends_73 : decode cL_ends 73 = .ok (.goto (-58), 3) := by decide +kernel
theorem dL_ends_76 : decode cL_ends 76 = .ok (.return_, 1) := by decide +kernel
theorem dL_bar_0 : decode cL_bar 0 = .ok (.iconst 5, 1) := by decide +kernel
theorem dL_bar_1 : decode cL_bar 1 = .ok (.istore 5, 2) := by decide +kernel
theorem dL_bar_3 : decode cL_bar 3 = .ok (.iconst 1, 1) := by decide +kernel
theorem dL_bar_4 : decode cL_bar 4 = .ok (.istore 6, 2) := by decide +kernel
theorem dL_bar_6 : decode cL_bar 6 = .ok (.iload 6, 2) := by decide +kernel
theorem dL_bar_8 : decode cL_bar 8 = .ok (.iload 4, 2) := by decide +kernel
theorem dL_bar_10 : decode cL_bar 10 = .ok (.iconst 5, 1) := by decide +kernel
theorem dL_bar_11 : decode cL_bar 11 = .ok (.if_icmp .ge 10, 3) := by decide +kernel
theorem dL_bar_14 : decode cL_bar 14 = .ok (.iload 4, 2) := by decide +kernel
theorem dL_bar_16 : decode cL_bar 16 = .ok (.iconst 1, 1) := by decide +kernel
theorem dL_bar_17 : decode cL_bar 17 = .ok (.iadd, 1) := by decide +kernel
theorem dL_bar_18 : decode cL_bar 18 = .ok (.goto 4, 3) := by decide +kernel
theorem dL_bar_21 : decode cL_bar 21 = .ok (.iconst 5, 1) := by decide +kernel
theorem dL_bar_22 : decode cL_bar 22 = .ok (.if_icmp .ge 15, 3) := by decide +kernel
theorem dL_bar_25 : decode cL_bar 25 = .ok (.iload 5, 2) := by decide +kernel
theorem dL_bar_27 : decode cL_bar 27 = .ok (.iconst 2, 1) := by decide +kernel
theorem dL_bar_28 : decode cL_bar 28 = .ok (.imul, 1) := by decide +kernel
theorem dL_bar_29 : decode cL_bar 29 = .ok (.istore 5, 2) := by decide +kernel
theorem dL_bar_31 : decode cL_bar 31 = .ok (.iinc 6 1, 3) := by decide +kernel
theorem dL_bar_34 : decode cL_bar 34 = .ok (.goto (-28), 3) := by decide +kernel
theorem dL_bar_37 : decode cL_bar 37 = .ok (.aload_n 1, 1) := by decide +kernel
theorem dL_bar_38 : decode cL_bar 38 = .ok (.iload_n 3, 1) := by decide +kernel
theorem dL_bar_39 : decode cL_bar 39 = .ok (.aload_n 2, 1) := by decide +kernel
theorem dL_bar_40 : decode cL_bar 40 = .ok (.iconst 0, 1) := by decide +kernel
theorem dL_bar_41 : decode cL_bar 41 = .ok (.iaload, 1) := by decide +kernel
theorem dL_bar_42 : decode cL_bar 42 = .ok (.iload 5, 2) := by decide +kernel
theorem dL_bar_44 : decode cL_bar 44 = .ok (.iadd, 1) := by decide +kernel
theorem dL_bar_45 : decode cL_bar 45 = .ok (.iastore, 1) := by decide +kernel
theorem dL_bar_46 : decode cL_bar 46 = .ok (.iload 5, 2) := by decide +kernel
theorem dL_bar_48 : decode cL_bar 48 = .ok (.ireturn, 1) := by decide +kernel
set_option maxRecDepth 20000 in
theorem ggL_answers_L_has : GoodIn wsL_answers wsL_has := goodIn_r _ [6] (by decide +kernel) (by decide +kernel)
set_option maxRecDepth 20000 in
theorem gL_answers_L_has : GoodIn wsL_answers (va_wsS RL 48 yL_has wsL_has) := goodIn_app (goodIn_of _ (by decide +kernel)) ggL_answers_L_has
set_option maxRecDepth 20000 in
theorem ggL_answers_X5_level : GoodIn wsL_answers wsX5_level := goodIn_ca (goodIn_r _ [11, 12, 13, 14, 15, 10, 16, 17, 18, 19, 20, 21, 22, 23, 24, 25, 26, 27, 28, 29, 30, 31, 32, 33, 34, 35, 36, 37, 38, 39, 40, 41, 42, 43, 302, 303, 304, 305, 306, 307, 308, 309, 310, 311, 312, 313, 314, 315] (by decide +kernel) (by decide +kernel)) (goodIn_sub (fun _ h => List.mem_cons_of_mem _ (List.mem_append_left _ (List.mem_append_left _ (List.mem_append_right _ h)))) (by decide +kernel))
set_option maxRecDepth 20000 in
theorem gL_answers_X5_level : GoodIn wsL_answers (wsV RL 98 RX5 yX5_level wsX5_level) := goodIn_app (goodIn_of _ (by decide +kernel)) ggL_answers_X5_level
set_option maxRecDepth 20000 in
theorem ggL_answers_L_asks : GoodIn wsL_answers wsL_asks := goodIn_ca (goodIn_ca (goodIn_ca (goodIn_r _ [46, 47, 48, 49, 50, 51, 10, 52, 53, 54, 55, 56, 19, 57, 58, 59, 60, 61, 20, 62, 63, 64, 65, 66, 67, 68, 21, 22, 23, 24, 25, 26, 69, 70, 71, 72, 73, 27, 28, 29, 30, 31, 32, 33, 34, 35, 36, 37, 38, 39, 40, 41, 42, 43, 74, 75, 76, 77, 78, 79, 80, 81, 82, 83, 84, 85, 86, 87, 88, 89, 90, 91, 92, 93, 94, 95, 96, 97, 98, 99, 100, 101, 102, 103, 104, 105, 106, 107, 108, 109, 110, 111, 112, 113, 114, 115, 116, 117, 118, 119, 120, 121, 122, 123, 124, 125, 126, 127, 128, 129, 130, 131, 132, 133, 134, 135, 136, 137, 138, 139, 140, 141, 142, 143, 144, 145, 146, 147, 148, 149, 150, 151, 152, 153, 154, 155, 156, 157, 158, 159, 160, 161, 162, 163, 164, 165, 166, 167, 168, 169, 170, 171, 172, 173, 174, 175, 176, 177, 178, 179, 180, 181, 182, 183, 184, 185, 186, 187, 17, 18, 188, 189, 190, 191, 192, 193, 194, 195, 196, 197, 198, 199, 200, 201, 202, 203, 13, 14, 15, 16, 204, 205, 206, 207, 208, 209, 210, 211, 212, 213, 214, 215, 216, 217, 218, 219, 220, 221, 222, 223, 224, 225, 226, 227, 228, 229, 230, 231, 232, 233, 234, 235, 236, 237, 238, 239, 240, 5, 241, 242, 243, 244, 245, 246, 247, 248, 249, 250, 251, 252, 253, 254, 255, 256, 257, 258, 259, 260, 261, 262, 263, 264, 265, 266, 267, 268, 269, 270, 271, 272, 273, 274, 275, 276, 277, 278, 279, 280, 281, 282, 283, 284, 285, 286, 287, 288, 308, 309, 310, 311, 312, 316, 317, 318, 319, 320, 313, 314, 315, 302, 303, 304, 305, 306, 307, 321, 322, 323, 324, 325, 326, 327] (by decide +kernel) (by decide +kernel)) (goodIn_sub (fun _ h => List.mem_cons_of_mem _ (List.mem_append_left _ (List.mem_append_right _ h))) (by decide +kernel))) (goodIn_sub (fun _ h => List.mem_cons_of_mem _ (List.mem_append_right _ h)) (by decide +kernel))) (goodIn_sub (fun _ h => List.mem_cons_of_mem _ (List.mem_append_left _ (List.mem_append_left _ (List.mem_append_right _ h)))) (by decide +kernel))
set_option maxRecDepth 20000 in
theorem gL_answers_L_asks : GoodIn wsL_answers (va_wsS RL 81 yL_asks wsL_asks) := goodIn_app (goodIn_of _ (by decide +kernel)) ggL_answers_L_asks
set_option maxRecDepth 20000 in
theorem ggL_answers_L_ends : GoodIn wsL_answers wsL_ends := goodIn_r _ [291, 1, 292, 293, 294, 295, 296, 5, 297, 298] (by decide +kernel) (by decide +kernel)
set_option maxRecDepth 20000 in
theorem gL_answers_L_ends : GoodIn wsL_answers (va_wsS RL 135 yL_ends wsL_ends) := goodIn_app (goodIn_of _ (by decide +kernel)) ggL_answers_L_ends
set_option maxRecDepth 20000 in
theorem ggL_answers_L_bar : GoodIn wsL_answers wsL_bar := goodIn_r _ [301] (by decide +kernel) (by decide +kernel)
set_option maxRecDepth 20000 in
theorem gL_answers_L_bar : GoodIn wsL_answers (va_wsS RL 139 yL_bar wsL_bar) := goodIn_app (goodIn_of _ (by decide +kernel)) ggL_answers_L_bar
theorem dL_answers_0 : decode cL_answers 0 = .ok (.aload 5, 2) := by decide +kernel
theorem dL_answers_2 : decode cL_answers 2 = .ok (.iload_n 1, 1) := by decide +kernel
theorem dL_answers_3 : decode cL_answers 3 = .ok (.iaload, 1) := by decide +kernel
theorem dL_answers_4 : decode cL_answers 4 = .ok (.bipush 18, 2) := by decide +kernel
theorem dL_answers_6 : decode cL_answers 6 = .ok (.ishr, 1) := by decide +kernel
theorem dL_answers_7 : decode cL_answers 7 = .ok (.iconst 3, 1) := by decide +kernel
theorem dL_answers_8 : decode cL_answers 8 = .ok (.iand, 1) := by decide +kernel
theorem dL_answers_9 : decode cL_answers 9 = .ok (.ifCond .ne 25, 3) := by decide +kernel
theorem dL_answers_12 : decode cL_answers 12 = .ok (.aload 5, 2) := by decide +kernel
theorem dL_answers_14 : decode cL_answers 14 = .ok (.iload_n 1, 1) := by decide +kernel
theorem dL_answers_15 : decode cL_answers 15 = .ok (.iaload, 1) := by decide +kernel
theorem dL_answers_16 : decode cL_answers 16 = .ok (.aload 7, 2) := by decide +kernel
theorem dL_answers_18 : decode cL_answers 18 = .ok (.iload_n 1, 1) := by decide +kernel
theorem dL_answers_19 : decode cL_answers 19 = .ok (.iaload, 1) := by decide +kernel
theorem dL_answers_20 : decode cL_answers 20 = .ok (.iconst (-1), 1) := by decide +kernel
theorem dL_answers_21 : decode cL_answers 21 = .ok (.ixor, 1) := by decide +kernel
theorem dL_answers_22 : decode cL_answers 22 = .ok (.iand, 1) := by decide +kernel
theorem dL_answers_23 : decode cL_answers 23 = .ok (.iload_n 2, 1) := by decide +kernel
theorem dL_answers_24 : decode cL_answers 24 = .ok (.invokestatic 48, 3) := by decide +kernel
theorem dL_answers_27 : decode cL_answers 27 = .ok (.ifCond .eq 7, 3) := by decide +kernel
theorem dL_answers_30 : decode cL_answers 30 = .ok (.iconst 1, 1) := by decide +kernel
theorem dL_answers_31 : decode cL_answers 31 = .ok (.goto 4, 3) := by decide +kernel
theorem dL_answers_34 : decode cL_answers 34 = .ok (.iconst 0, 1) := by decide +kernel
theorem dL_answers_35 : decode cL_answers 35 = .ok (.istore 9, 2) := by decide +kernel
theorem dL_answers_37 : decode cL_answers 37 = .ok (.aload_n 0, 1) := by decide +kernel
theorem dL_answers_38 : decode cL_answers 38 = .ok (.iload_n 2, 1) := by decide +kernel
theorem dL_answers_39 : decode cL_answers 39 = .ok (.invokevirtual 98, 3) := by decide +kernel
theorem dL_answers_42 : decode cL_answers 42 = .ok (.istore 10, 2) := by decide +kernel
theorem dL_answers_44 : decode cL_answers 44 = .ok (.aload_n 0, 1) := by decide +kernel
theorem dL_answers_45 : decode cL_answers 45 = .ok (.iload_n 3, 1) := by decide +kernel
theorem dL_answers_46 : decode cL_answers 46 = .ok (.ifCond .eq 7, 3) := by decide +kernel
theorem dL_answers_49 : decode cL_answers 49 = .ok (.iconst 2, 1) := by decide +kernel
theorem dL_answers_50 : decode cL_answers 50 = .ok (.goto 4, 3) := by decide +kernel
theorem dL_answers_53 : decode cL_answers 53 = .ok (.iconst 3, 1) := by decide +kernel
theorem dL_answers_54 : decode cL_answers 54 = .ok (.iload_n 1, 1) := by decide +kernel
theorem dL_answers_55 : decode cL_answers 55 = .ok (.iload_n 2, 1) := by decide +kernel
theorem dL_answers_56 : decode cL_answers 56 = .ok (.invokestatic 81, 3) := by decide +kernel
theorem dL_answers_59 : decode cL_answers 59 = .ok (.istore 11, 2) := by decide +kernel
theorem dL_answers_61 : decode cL_answers 61 = .ok (.iload 9, 2) := by decide +kernel
theorem dL_answers_63 : decode cL_answers 63 = .ok (.ifCond .ne 16, 3) := by decide +kernel
theorem dL_answers_66 : decode cL_answers 66 = .ok (.iload 11, 2) := by decide +kernel
theorem dL_answers_68 : decode cL_answers 68 = .ok (.bipush (-8), 2) := by decide +kernel
theorem dL_answers_70 : decode cL_answers 70 = .ok (.if_icmp .ne 7, 3) := by decide +kernel
theorem dL_answers_73 : decode cL_answers 73 = .ok (.iconst 1, 1) := by decide +kernel
theorem dL_answers_74 : decode cL_answers 74 = .ok (.goto 4, 3) := by decide +kernel
theorem dL_answers_77 : decode cL_answers 77 = .ok (.iconst 0, 1) := by decide +kernel
theorem dL_answers_78 : decode cL_answers 78 = .ok (.ireturn, 1) := by decide +kernel
theorem dL_answers_79 : decode cL_answers 79 = .ok (.iload_n 3, 1) := by decide +kernel
theorem dL_answers_80 : decode cL_answers 80 = .ok (.ifCond .eq 73, 3) := by decide +kernel
theorem dL_answers_83 : decode cL_answers 83 = .ok (.aload 7, 2) := by decide +kernel
theorem dL_answers_85 : decode cL_answers 85 = .ok (.iload_n 1, 1) := by decide +kernel
theorem dL_answers_86 : decode cL_answers 86 = .ok (.dup2, 1) := by decide +kernel
theorem dL_answers_87 : decode cL_answers 87 = .ok (.iaload, 1) := by decide +kernel
theorem dL_answers_88 : decode cL_answers 88 = .ok (.iconst 1, 1) := by decide +kernel
theorem dL_answers_89 : decode cL_answers 89 = .ok (.iload_n 2, 1) := by decide +kernel
theorem dL_answers_90 : decode cL_answers 90 = .ok (.ishl, 1) := by decide +kernel
theorem dL_answers_91 : decode cL_answers 91 = .ok (.ior, 1) := by decide +kernel
theorem dL_answers_92 : decode cL_answers 92 = .ok (.iastore, 1) := by decide +kernel
theorem dL_answers_93 : decode cL_answers 93 = .ok (.aload 7, 2) := by decide +kernel
theorem dL_answers_95 : decode cL_answers 95 = .ok (.iload_n 1, 1) := by decide +kernel
theorem dL_answers_96 : decode cL_answers 96 = .ok (.iaload, 1) := by decide +kernel
theorem dL_answers_97 : decode cL_answers 97 = .ok (.aload 5, 2) := by decide +kernel
theorem dL_answers_99 : decode cL_answers 99 = .ok (.iload_n 1, 1) := by decide +kernel
theorem dL_answers_100 : decode cL_answers 100 = .ok (.iaload, 1) := by decide +kernel
theorem dL_answers_101 : decode cL_answers 101 = .ok (.ldc 91, 2) := by decide +kernel
theorem dL_answers_103 : decode cL_answers 103 = .ok (.iand, 1) := by decide +kernel
theorem dL_answers_104 : decode cL_answers 104 = .ok (.if_icmp .ne 7, 3) := by decide +kernel
theorem dL_answers_107 : decode cL_answers 107 = .ok (.iconst 1, 1) := by decide +kernel
theorem dL_answers_108 : decode cL_answers 108 = .ok (.goto 4, 3) := by decide +kernel
theorem dL_answers_111 : decode cL_answers 111 = .ok (.iconst 0, 1) := by decide +kernel
theorem dL_answers_112 : decode cL_answers 112 = .ok (.istore 12, 2) := by decide +kernel
theorem dL_answers_114 : decode cL_answers 114 = .ok (.aload 5, 2) := by decide +kernel
theorem dL_answers_116 : decode cL_answers 116 = .ok (.iload_n 1, 1) := by decide +kernel
theorem dL_answers_117 : decode cL_answers 117 = .ok (.dup2, 1) := by decide +kernel
theorem dL_answers_118 : decode cL_answers 118 = .ok (.iaload, 1) := by decide +kernel
theorem dL_answers_119 : decode cL_answers 119 = .ok (.iload 12, 2) := by decide +kernel
theorem dL_answers_121 : decode cL_answers 121 = .ok (.ifCond .eq 8, 3) := by decide +kernel
theorem dL_answers_124 : decode cL_answers 124 = .ok (.ldc 134, 2) := by decide +kernel
theorem dL_answers_126 : decode cL_answers 126 = .ok (.goto 4, 3) := by decide +kernel
theorem dL_answers_129 : decode cL_answers 129 = .ok (.iconst 0, 1) := by decide +kernel
theorem dL_answers_130 : decode cL_answers 130 = .ok (.ior, 1) := by decide +kernel
theorem dL_answers_131 : decode cL_answers 131 = .ok (.iastore, 1) := by decide +kernel
theorem dL_answers_132 : decode cL_answers 132 = .ok (.iload 11, 2) := by decide +kernel
theorem dL_answers_134 : decode cL_answers 134 = .ok (.iload 12, 2) := by decide +kernel
theorem dL_answers_136 : decode cL_answers 136 = .ok (.ifCond .eq 7, 3) := by decide +kernel
theorem dL_answers_139 : decode cL_answers 139 = .ok (.iconst 1, 1) := by decide +kernel
theorem dL_answers_140 : decode cL_answers 140 = .ok (.goto 4, 3) := by decide +kernel
theorem dL_answers_143 : decode cL_answers 143 = .ok (.iconst 0, 1) := by decide +kernel
theorem dL_answers_144 : decode cL_answers 144 = .ok (.if_icmp .ne 7, 3) := by decide +kernel
theorem dL_answers_147 : decode cL_answers 147 = .ok (.iconst 1, 1) := by decide +kernel
theorem dL_answers_148 : decode cL_answers 148 = .ok (.goto 4, 3) := by decide +kernel
theorem dL_answers_151 : decode cL_answers 151 = .ok (.iconst 0, 1) := by decide +kernel
theorem dL_answers_152 : decode cL_answers 152 = .ok (.ireturn, 1) := by decide +kernel
theorem dL_answers_153 : decode cL_answers 153 = .ok (.aload 4, 2) := by decide +kernel
theorem dL_answers_155 : decode cL_answers 155 = .ok (.aload 5, 2) := by decide +kernel
theorem dL_answers_157 : decode cL_answers 157 = .ok (.aload 8, 2) := by decide +kernel
theorem dL_answers_159 : decode cL_answers 159 = .ok (.iload_n 1, 1) := by decide +kernel
theorem dL_answers_160 : decode cL_answers 160 = .ok (.iconst 1, 1) := by decide +kernel
theorem dL_answers_161 : decode cL_answers 161 = .ok (.iload_n 2, 1) := by decide +kernel
theorem dL_answers_162 : decode cL_answers 162 = .ok (.ishl, 1) := by decide +kernel
theorem dL_answers_163 : decode cL_answers 163 = .ok (.invokestatic 135, 3) := by decide +kernel
theorem dL_answers_166 : decode cL_answers 166 = .ok (.iload 11, 2) := by decide +kernel
theorem dL_answers_168 : decode cL_answers 168 = .ok (.aload_n 0, 1) := by decide +kernel
theorem dL_answers_169 : decode cL_answers 169 = .ok (.aload 6, 2) := by decide +kernel
theorem dL_answers_171 : decode cL_answers 171 = .ok (.aload 8, 2) := by decide +kernel
theorem dL_answers_173 : decode cL_answers 173 = .ok (.iload_n 2, 1) := by decide +kernel
theorem dL_answers_174 : decode cL_answers 174 = .ok (.iload 10, 2) := by decide +kernel
theorem dL_answers_176 : decode cL_answers 176 = .ok (.invokestatic 139, 3) := by decide +kernel
theorem dL_answers_179 : decode cL_answers 179 = .ok (.if_icmp .ne 29, 3) := by decide +kernel
theorem dL_answers_182 : decode cL_answers 182 = .ok (.aload_n 0, 1) := by decide +kernel
theorem dL_answers_183 : decode cL_answers 183 = .ok (.iload_n 2, 1) := by decide +kernel
theorem dL_answers_184 : decode cL_answers 184 = .ok (.invokevirtual 98, 3) := by decide +kernel
theorem dL_answers_187 : decode cL_answers 187 = .ok (.iload 10, 2) := by decide +kernel
theorem dL_answers_189 : decode cL_answers 189 = .ok (.iconst 5, 1) := by decide +kernel
theorem dL_answers_190 : decode cL_answers 190 = .ok (.if_icmp .ge 10, 3) := by decide +kernel
theorem dL_answers_193 : decode cL_answers 193 = .ok (.iload 10, 2) := by decide +kernel
theorem dL_answers_195 : decode cL_answers 195 = .ok (.iconst 1, 1) := by decide +kernel
theorem dL_answers_196 : decode cL_answers 196 = .ok (.iadd, 1) := by decide +kernel
theorem dL_answers_197 : decode cL_answers 197 = .ok (.goto 4, 3) := by decide +kernel
theorem dL_answers_200 : decode cL_answers 200 = .ok (.iconst 5, 1) := by decide +kernel
theorem dL_answers_201 : decode cL_answers 201 = .ok (.if_icmp .ne 7, 3) := by decide +kernel
theorem dL_answers_204 : decode cL_answers 204 = .ok (.iconst 1, 1) := by decide +kernel
theorem dL_answers_205 : decode cL_answers 205 = .ok (.goto 4, 3) := by decide +kernel
theorem dL_answers_208 : decode cL_answers 208 = .ok (.iconst 0, 1) := by decide +kernel
theorem dL_answers_209 : decode cL_answers 209 = .ok (.ireturn, 1) := by decide +kernel
set_option maxRecDepth 20000 in
theorem ggL_wins_X5_team : GoodIn wsL_wins wsX5_team := goodIn_ca (goodIn_ca (goodIn_r _ [10, 11, 12, 13, 14, 15, 9, 16, 17, 18, 19, 20, 21, 22, 23, 24, 25, 26, 27, 28, 29, 30, 31, 32, 33, 34, 35, 36, 37, 38, 39, 40, 41, 42, 43, 44, 45, 46, 47, 48, 308, 309, 310, 311, 312, 313, 314, 315, 316, 317, 318, 319, 320, 321, 322] (by decide +kernel) (by decide +kernel)) (goodIn_sub (fun _ h => List.mem_cons_of_mem _ (List.mem_append_left _ (List.mem_append_left _ (List.mem_append_right _ h)))) (by decide +kernel))) (goodIn_sub (fun _ h => List.mem_cons_of_mem _ (List.mem_append_left _ (List.mem_append_right _ h))) (by decide +kernel))
set_option maxRecDepth 20000 in
theorem gL_wins_X5_team : GoodIn wsL_wins (wsV RL 88 RX5 yX5_team wsX5_team) := goodIn_app (goodIn_of _ (by decide +kernel)) ggL_wins_X5_team
set_option maxRecDepth 20000 in
theorem ggL_wins_L_sum : GoodIn wsL_wins wsL_sum := goodIn_ca (goodIn_r _ [52, 53, 54, 51, 55, 56, 57, 58, 9, 59, 60, 61, 62, 63, 64, 17, 18, 65, 66, 21, 22, 23, 24, 25, 26, 27, 28, 29, 30, 31, 32, 33, 34, 35, 36, 37, 38, 39, 40, 41, 42, 43, 323, 324, 325, 326, 327, 328, 315, 316, 317, 318, 319, 320, 321, 322] (by decide +kernel) (by decide +kernel)) (goodIn_sub (fun _ h => List.mem_cons_of_mem _ (List.mem_append_left _ (List.mem_append_left _ (List.mem_append_right _ h)))) (by decide +kernel))
set_option maxRecDepth 20000 in
theorem gL_wins_L_sum : GoodIn wsL_wins (va_wsS RL 58 yL_sum wsL_sum) := goodIn_app (goodIn_of _ (by decide +kernel)) ggL_wins_L_sum
set_option maxRecDepth 20000 in
theorem ggL_wins_X5_rating : GoodIn wsL_wins wsX5_rating := goodIn_ca (goodIn_r _ [59, 60, 61, 62, 63, 9, 64, 17, 18, 65, 66, 21, 22, 23, 24, 25, 26, 27, 28, 29, 30, 31, 32, 33, 34, 35, 36, 37, 38, 39, 40, 41, 42, 43, 323, 324, 325, 326, 327, 328, 315, 316, 317, 318, 319, 320, 321, 322] (by decide +kernel) (by decide +kernel)) (goodIn_sub (fun _ h => List.mem_cons_of_mem _ (List.mem_append_left _ (List.mem_append_left _ (List.mem_append_right _ h)))) (by decide +kernel))
set_option maxRecDepth 20000 in
theorem gL_wins_X5_rating : GoodIn wsL_wins (wsV RL 51 RX5 yX5_rating wsX5_rating) := goodIn_app (goodIn_of _ (by decide +kernel)) ggL_wins_X5_rating
set_option maxRecDepth 20000 in
theorem ggL_wins_X5_uncertainty : GoodIn wsL_wins wsX5_uncertainty := goodIn_ca (goodIn_r _ [70, 71, 61, 62, 63, 9, 64, 17, 18, 65, 66, 21, 22, 23, 24, 25, 26, 27, 28, 29, 30, 31, 32, 33, 34, 35, 36, 37, 38, 39, 40, 41, 42, 43, 323, 324, 325, 326, 327, 328, 315, 316, 317, 318, 319, 320, 321, 322] (by decide +kernel) (by decide +kernel)) (goodIn_sub (fun _ h => List.mem_cons_of_mem _ (List.mem_append_left _ (List.mem_append_left _ (List.mem_append_right _ h)))) (by decide +kernel))
set_option maxRecDepth 20000 in
theorem gL_wins_X5_uncertainty : GoodIn wsL_wins (wsV RL 95 RX5 yX5_uncertainty wsX5_uncertainty) := goodIn_app (goodIn_of _ (by decide +kernel)) ggL_wins_X5_uncertainty
set_option maxRecDepth 20000 in
theorem ggL_wins_X5_level : GoodIn wsL_wins wsX5_level := goodIn_ca (goodIn_r _ [75, 76, 61, 62, 63, 9, 64, 17, 18, 65, 66, 21, 22, 23, 24, 25, 26, 27, 28, 29, 30, 31, 32, 33, 34, 35, 36, 37, 38, 39, 40, 41, 42, 43, 323, 324, 325, 326, 327, 328, 315, 316, 317, 318, 319, 320, 321, 322] (by decide +kernel) (by decide +kernel)) (goodIn_sub (fun _ h => List.mem_cons_of_mem _ (List.mem_append_left _ (List.mem_append_left _ (List.mem_append_right _ h)))) (by decide +kernel))
set_option maxRecDepth 20000 in
theorem gL_wins_X5_level : GoodIn wsL_wins (wsV RL 98 RX5 yX5_level wsX5_level) := goodIn_app (goodIn_of _ (by decide +kernel)) ggL_wins_X5_level
set_option maxRecDepth 20000 in
theorem ggL_wins_L_asks : GoodIn wsL_wins wsL_asks := goodIn_ca (goodIn_ca (goodIn_ca (goodIn_r _ [79, 80, 81, 82, 83, 84, 9, 85, 47, 48, 86, 87, 65, 88, 89, 90, 91, 92, 66, 93, 94, 95, 96, 97, 98, 99, 21, 22, 23, 24, 25, 26, 100, 101, 102, 103, 104, 27, 28, 29, 30, 31, 32, 33, 34, 35, 36, 37, 38, 39, 40, 41, 42, 43, 105, 106, 107, 108, 109, 110, 111, 112, 113, 114, 115, 116, 117, 118, 119, 120, 121, 122, 123, 124, 125, 126, 127, 128, 129, 130, 131, 132, 133, 134, 135, 136, 137, 138, 139, 140, 141, 142, 143, 144, 145, 146, 147, 148, 149, 150, 151, 152, 153, 154, 155, 156, 157, 158, 159, 160, 161, 162, 163, 164, 165, 166, 167, 168, 169, 170, 171, 172, 173, 174, 175, 176, 177, 178, 179, 180, 181, 182, 183, 184, 185, 186, 187, 188, 189, 190, 191, 192, 193, 194, 195, 196, 197, 198, 199, 200, 201, 202, 203, 204, 205, 206, 207, 208, 209, 210, 211, 212, 213, 214, 215, 216, 217, 218, 17, 18, 219, 220, 221, 222, 223, 224, 225, 226, 227, 228, 13, 14, 15, 16, 19, 20, 61, 62, 63, 64, 229, 230, 231, 232, 233, 234, 235, 236, 237, 238, 239, 240, 241, 242, 243, 244, 245, 246, 247, 248, 249, 250, 251, 252, 253, 254, 255, 256, 257, 258, 259, 260, 261, 262, 263, 264, 265, 51, 266, 267, 268, 269, 270, 11, 12, 44, 45, 46, 271, 272, 273, 274, 275, 276, 277, 278, 279, 280, 60, 281, 282, 283, 284, 285, 286, 287, 288, 289, 290, 291, 292, 293, 294, 295, 296, 297, 298, 299, 300, 301, 302, 303, 304, 305, 306, 307, 315, 316, 317, 318, 319, 329, 330, 331, 332, 333, 320, 321, 322, 323, 324, 325, 326, 327, 328, 308, 309, 310, 311, 312, 313, 314] (by decide +kernel) (by decide +kernel)) (goodIn_sub (fun _ h => List.mem_cons_of_mem _ (List.mem_append_left _ (List.mem_append_right _ h))) (by decide +kernel))) (goodIn_sub (fun _ h => List.mem_cons_of_mem _ (List.mem_append_right _ h)) (by decide +kernel))) (goodIn_sub (fun _ h => List.mem_cons_of_mem _ (List.mem_append_left _ (List.mem_append_left _ (List.mem_append_right _ h)))) (by decide +kernel))
set_option maxRecDepth 20000 in
theorem gL_wins_L_asks : GoodIn wsL_wins (va_wsS RL 81 yL_asks wsL_asks) := goodIn_app (goodIn_of _ (by decide +kernel)) ggL_wins_L_asks
set_option maxRecDepth 20000 in
theorem ggL_wins_L_has : GoodIn wsL_wins wsL_has := goodIn_r _ [55] (by decide +kernel) (by decide +kernel)
set_option maxRecDepth 20000 in
theorem gL_wins_L_has : GoodIn wsL_wins (va_wsS RL 48 yL_has wsL_has) := goodIn_app (goodIn_of _ (by decide +kernel)) ggL_wins_L_has
theorem dL_wins_0 : decode cL_wins 0 = .ok (.bipush 18, 2) := by decide +kernel
theorem dL_wins_2 : decode cL_wins 2 = .ok (.newarray .int, 2) := by decide +kernel
theorem dL_wins_4 : decode cL_wins 4 = .ok (.astore 6, 2) := by decide +kernel
theorem dL_wins_6 : decode cL_wins 6 = .ok (.bipush 18, 2) := by decide +kernel
theorem dL_wins_8 : decode cL_wins 8 = .ok (.newarray .int, 2) := by decide +kernel
theorem dL_wins_10 : decode cL_wins 10 = .ok (.astore 7, 2) := by decide +kernel
theorem dL_wins_12 : decode cL_wins 12 = .ok (.bipush 18, 2) := by decide +kernel
theorem dL_wins_14 : decode cL_wins 14 = .ok (.newarray .int, 2) := by decide +kernel
theorem dL_wins_16 : decode cL_wins 16 = .ok (.astore 8, 2) := by decide +kernel
theorem dL_wins_18 : decode cL_wins 18 = .ok (.aload 4, 2) := by decide +kernel
theorem dL_wins_20 : decode cL_wins 20 = .ok (.iload_n 1, 1) := by decide +kernel
theorem dL_wins_21 : decode cL_wins 21 = .ok (.iaload, 1) := by decide +kernel
theorem dL_wins_22 : decode cL_wins 22 = .ok (.bipush 18, 2) := by decide +kernel
theorem dL_wins_24 : decode cL_wins 24 = .ok (.ishr, 1) := by decide +kernel
theorem dL_wins_25 : decode cL_wins 25 = .ok (.iconst 3, 1) := by decide +kernel
theorem dL_wins_26 : decode cL_wins 26 = .ok (.iand, 1) := by decide +kernel
theorem dL_wins_27 : decode cL_wins 27 = .ok (.iconst 1, 1) := by decide +kernel
theorem dL_wins_28 : decode cL_wins 28 = .ok (.if_icmp .ne 7, 3) := by decide +kernel
theorem dL_wins_31 : decode cL_wins 31 = .ok (.iconst 1, 1) := by decide +kernel
theorem dL_wins_32 : decode cL_wins 32 = .ok (.goto 4, 3) := by decide +kernel
theorem dL_wins_35 : decode cL_wins 35 = .ok (.iconst 0, 1) := by decide +kernel
theorem dL_wins_36 : decode cL_wins 36 = .ok (.istore 9, 2) := by decide +kernel
theorem dL_wins_38 : decode cL_wins 38 = .ok (.aload_n 0, 1) := by decide +kernel
theorem dL_wins_39 : decode cL_wins 39 = .ok (.iload_n 1, 1) := by decide +kernel
theorem dL_wins_40 : decode cL_wins 40 = .ok (.iconst 0, 1) := by decide +kernel
theorem dL_wins_41 : decode cL_wins 41 = .ok (.invokevirtual 88, 3) := by decide +kernel
theorem dL_wins_44 : decode cL_wins 44 = .ok (.istore 10, 2) := by decide +kernel
theorem dL_wins_46 : decode cL_wins 46 = .ok (.sipush 500, 3) := by decide +kernel
theorem dL_wins_49 : decode cL_wins 49 = .ok (.aload_n 0, 1) := by decide +kernel
theorem dL_wins_50 : decode cL_wins 50 = .ok (.iload 10, 2) := by decide +kernel
theorem dL_wins_52 : decode cL_wins 52 = .ok (.invokestatic 58, 3) := by decide +kernel
theorem dL_wins_55 : decode cL_wins 55 = .ok (.iconst 3, 1) := by decide +kernel
theorem dL_wins_56 : decode cL_wins 56 = .ok (.idiv, 1) := by decide +kernel
theorem dL_wins_57 : decode cL_wins 57 = .ok (.iadd, 1) := by decide +kernel
theorem dL_wins_58 : decode cL_wins 58 = .ok (.aload_n 0, 1) := by decide +kernel
theorem dL_wins_59 : decode cL_wins 59 = .ok (.aload_n 0, 1) := by decide +kernel
theorem dL_wins_60 : decode cL_wins 60 = .ok (.iload_n 1, 1) := by decide +kernel
theorem dL_wins_61 : decode cL_wins 61 = .ok (.iconst 1, 1) := by decide +kernel
theorem dL_wins_62 : decode cL_wins 62 = .ok (.invokevirtual 88, 3) := by decide +kernel
theorem dL_wins_65 : decode cL_wins 65 = .ok (.invokestatic 58, 3) := by decide +kernel
theorem dL_wins_68 : decode cL_wins 68 = .ok (.iconst 3, 1) := by decide +kernel
theorem dL_wins_69 : decode cL_wins 69 = .ok (.idiv, 1) := by decide +kernel
theorem dL_wins_70 : decode cL_wins 70 = .ok (.isub, 1) := by decide +kernel
theorem dL_wins_71 : decode cL_wins 71 = .ok (.istore 11, 2) := by decide +kernel
theorem dL_wins_73 : decode cL_wins 73 = .ok (.iload 11, 2) := by decide +kernel
theorem dL_wins_75 : decode cL_wins 75 = .ok (.bipush 50, 2) := by decide +kernel
theorem dL_wins_77 : decode cL_wins 77 = .ok (.if_icmp .ge 8, 3) := by decide +kernel
theorem dL_wins_80 : decode cL_wins 80 = .ok (.bipush 50, 2) := by decide +kernel
theorem dL_wins_82 : decode cL_wins 82 = .ok (.goto 19, 3) := by decide +kernel
theorem dL_wins_85 : decode cL_wins 85 = .ok (.iload 11, 2) := by decide +kernel
theorem dL_wins_87 : decode cL_wins 87 = .ok (.sipush 950, 3) := by decide +kernel
theorem dL_wins_90 : decode cL_wins 90 = .ok (.if_icmp .le 9, 3) := by decide +kernel
theorem dL_wins_93 : decode cL_wins 93 = .ok (.sipush 950, 3) := by decide +kernel
theorem dL_wins_96 : decode cL_wins 96 = .ok (.goto 5, 3) := by decide +kernel
theorem dL_wins_99 : decode cL_wins 99 = .ok (.iload 11, 2) := by decide +kernel
theorem dL_wins_101 : decode cL_wins 101 = .ok (.istore 11, 2) := by decide +kernel
theorem dL_wins_103 : decode cL_wins 103 = .ok (.iconst 0, 1) := by decide +kernel
theorem dL_wins_104 : decode cL_wins 104 = .ok (.istore 12, 2) := by decide +kernel
theorem dL_wins_106 : decode cL_wins 106 = .ok (.iload 12, 2) := by decide +kernel
theorem dL_wins_108 : decode cL_wins 108 = .ok (.aload 5, 2) := by decide +kernel
theorem dL_wins_110 : decode cL_wins 110 = .ok (.iconst 1, 1) := by decide +kernel
theorem dL_wins_111 : decode cL_wins 111 = .ok (.iaload, 1) := by decide +kernel
theorem dL_wins_112 : decode cL_wins 112 = .ok (.if_icmp .ge 42, 3) := by decide +kernel
theorem dL_wins_115 : decode cL_wins 115 = .ok (.aload 6, 2) := by decide +kernel
theorem dL_wins_117 : decode cL_wins 117 = .ok (.iload 12, 2) := by decide +kernel
theorem dL_wins_119 : decode cL_wins 119 = .ok (.aload_n 0, 1) := by decide +kernel
theorem dL_wins_120 : decode cL_wins 120 = .ok (.iload 12, 2) := by decide +kernel
theorem dL_wins_122 : decode cL_wins 122 = .ok (.invokevirtual 51, 3) := by decide +kernel
theorem dL_wins_125 : decode cL_wins 125 = .ok (.iastore, 1) := by decide +kernel
theorem dL_wins_126 : decode cL_wins 126 = .ok (.aload 7, 2) := by decide +kernel
theorem dL_wins_128 : decode cL_wins 128 = .ok (.iload 12, 2) := by decide +kernel
theorem dL_wins_130 : decode cL_wins 130 = .ok (.aload_n 0, 1) := by decide +kernel
theorem dL_wins_131 : decode cL_wins 131 = .ok (.iload 12, 2) := by decide +kernel
theorem dL_wins_133 : decode cL_wins 133 = .ok (.invokevirtual 95, 3) := by decide +kernel
theorem dL_wins_136 : decode cL_wins 136 = .ok (.iastore, 1) := by decide +kernel
theorem dL_wins_137 : decode cL_wins 137 = .ok (.aload 8, 2) := by decide +kernel
theorem dL_wins_139 : decode cL_wins 139 = .ok (.iload 12, 2) := by decide +kernel
theorem dL_wins_141 : decode cL_wins 141 = .ok (.aload_n 0, 1) := by decide +kernel
theorem dL_wins_142 : decode cL_wins 142 = .ok (.iload 12, 2) := by decide +kernel
theorem dL_wins_144 : decode cL_wins 144 = .ok (.invokevirtual 98, 3) := by decide +kernel
theorem dL_wins_147 : decode cL_wins 147 = .ok (.iastore, 1) := by decide +kernel
theorem dL_wins_148 : decode cL_wins 148 = .ok (.iinc 12 1, 3) := by decide +kernel
theorem dL_wins_151 : decode cL_wins 151 = .ok (.goto (-45), 3) := by decide +kernel
theorem dL_wins_154 : decode cL_wins 154 = .ok (.aload_n 0, 1) := by decide +kernel
theorem dL_wins_155 : decode cL_wins 155 = .ok (.iconst 4, 1) := by decide +kernel
theorem dL_wins_156 : decode cL_wins 156 = .ok (.iload_n 1, 1) := by decide +kernel
theorem dL_wins_157 : decode cL_wins 157 = .ok (.iload_n 2, 1) := by decide +kernel
theorem dL_wins_158 : decode cL_wins 158 = .ok (.invokestatic 81, 3) := by decide +kernel
theorem dL_wins_161 : decode cL_wins 161 = .ok (.istore 12, 2) := by decide +kernel
theorem dL_wins_163 : decode cL_wins 163 = .ok (.iload 12, 2) := by decide +kernel
theorem dL_wins_165 : decode cL_wins 165 = .ok (.iload 9, 2) := by decide +kernel
theorem dL_wins_167 : decode cL_wins 167 = .ok (.ifCond .eq 7, 3) := by decide +kernel
theorem dL_wins_170 : decode cL_wins 170 = .ok (.iconst 0, 1) := by decide +kernel
theorem dL_wins_171 : decode cL_wins 171 = .ok (.goto 5, 3) := by decide +kernel
theorem dL_wins_174 : decode cL_wins 174 = .ok (.bipush (-8), 2) := by decide +kernel
theorem dL_wins_176 : decode cL_wins 176 = .ok (.if_icmp .ne 7, 3) := by decide +kernel
theorem dL_wins_179 : decode cL_wins 179 = .ok (.iconst 1, 1) := by decide +kernel
theorem dL_wins_180 : decode cL_wins 180 = .ok (.goto 4, 3) := by decide +kernel
theorem dL_wins_183 : decode cL_wins 183 = .ok (.iconst 0, 1) := by decide +kernel
theorem dL_wins_184 : decode cL_wins 184 = .ok (.istore 13, 2) := by decide +kernel
theorem dL_wins_186 : decode cL_wins 186 = .ok (.iconst 0, 1) := by decide +kernel
theorem dL_wins_187 : decode cL_wins 187 = .ok (.istore 14, 2) := by decide +kernel
theorem dL_wins_189 : decode cL_wins 189 = .ok (.iload 14, 2) := by decide +kernel
theorem dL_wins_191 : decode cL_wins 191 = .ok (.aload 5, 2) := by decide +kernel
theorem dL_wins_193 : decode cL_wins 193 = .ok (.iconst 1, 1) := by decide +kernel
theorem dL_wins_194 : decode cL_wins 194 = .ok (.iaload, 1) := by decide +kernel
theorem dL_wins_195 : decode cL_wins 195 = .ok (.if_icmp .ge 272, 3) := by decide +kernel
theorem dL_wins_198 : decode cL_wins 198 = .ok (.iload 13, 2) := by decide +kernel
theorem dL_wins_200 : decode cL_wins 200 = .ok (.ifCond .eq 267, 3) := by decide +kernel
theorem dL_wins_203 : decode cL_wins 203 = .ok (.iload 9, 2) := by decide +kernel
theorem dL_wins_205 : decode cL_wins 205 = .ok (.ifCond .eq 19, 3) := by decide +kernel
theorem dL_wins_208 : decode cL_wins 208 = .ok (.aload 4, 2) := by decide +kernel
theorem dL_wins_210 : decode cL_wins 210 = .ok (.iload_n 1, 1) := by decide +kernel
theorem dL_wins_211 : decode cL_wins 211 = .ok (.iaload, 1) := by decide +kernel
theorem dL_wins_212 : decode cL_wins 212 = .ok (.iload 14, 2) := by decide +kernel
theorem dL_wins_214 : decode cL_wins 214 = .ok (.invokestatic 48, 3) := by decide +kernel
theorem dL_wins_217 : decode cL_wins 217 = .ok (.ifCond .eq 7, 3) := by decide +kernel
theorem dL_wins_220 : decode cL_wins 220 = .ok (.iconst 1, 1) := by decide +kernel
theorem dL_wins_221 : decode cL_wins 221 = .ok (.goto 4, 3) := by decide +kernel
theorem dL_wins_224 : decode cL_wins 224 = .ok (.iconst 0, 1) := by decide +kernel
theorem dL_wins_225 : decode cL_wins 225 = .ok (.istore 15, 2) := by decide +kernel
theorem dL_wins_227 : decode cL_wins 227 = .ok (.iload 10, 2) := by decide +kernel
theorem dL_wins_229 : decode cL_wins 229 = .ok (.iload 14, 2) := by decide +kernel
theorem dL_wins_231 : decode cL_wins 231 = .ok (.invokestatic 48, 3) := by decide +kernel
theorem dL_wins_234 : decode cL_wins 234 = .ok (.iload_n 2, 1) := by decide +kernel
theorem dL_wins_235 : decode cL_wins 235 = .ok (.ifCond .ne 7, 3) := by decide +kernel
theorem dL_wins_238 : decode cL_wins 238 = .ok (.iconst 1, 1) := by decide +kernel
theorem dL_wins_239 : decode cL_wins 239 = .ok (.goto 4, 3) := by decide +kernel
theorem dL_wins_242 : decode cL_wins 242 = .ok (.iconst 0, 1) := by decide +kernel
theorem dL_wins_243 : decode cL_wins 243 = .ok (.if_icmp .ne 9, 3) := by decide +kernel
theorem dL_wins_246 : decode cL_wins 246 = .ok (.sipush 1000, 3) := by decide +kernel
theorem dL_wins_249 : decode cL_wins 249 = .ok (.goto 4, 3) := by decide +kernel
theorem dL_wins_252 : decode cL_wins 252 = .ok (.iconst 0, 1) := by decide +kernel
theorem dL_wins_253 : decode cL_wins 253 = .ok (.istore 16, 2) := by decide +kernel
theorem dL_wins_255 : decode cL_wins 255 = .ok (.aload 7, 2) := by decide +kernel
theorem dL_wins_257 : decode cL_wins 257 = .ok (.iload 14, 2) := by decide +kernel
theorem dL_wins_259 : decode cL_wins 259 = .ok (.iaload, 1) := by decide +kernel
theorem dL_wins_260 : decode cL_wins 260 = .ok (.iload 16, 2) := by decide +kernel
theorem dL_wins_262 : decode cL_wins 262 = .ok (.iload 10, 2) := by decide +kernel
theorem dL_wins_264 : decode cL_wins 264 = .ok (.iload 14, 2) := by decide +kernel
theorem dL_wins_266 : decode cL_wins 266 = .ok (.invokestatic 48, 3) := by decide +kernel
theorem dL_wins_269 : decode cL_wins 269 = .ok (.ifCond .eq 8, 3) := by decide +kernel
theorem dL_wins_272 : decode cL_wins 272 = .ok (.iload 11, 2) := by decide +kernel
theorem dL_wins_274 : decode cL_wins 274 = .ok (.goto 9, 3) := by decide +kernel
theorem dL_wins_277 : decode cL_wins 277 = .ok (.sipush 1000, 3) := by decide +kernel
theorem dL_wins_280 : decode cL_wins 280 = .ok (.iload 11, 2) := by decide +kernel
theorem dL_wins_282 : decode cL_wins 282 = .ok (.isub, 1) := by decide +kernel
theorem dL_wins_283 : decode cL_wins 283 = .ok (.isub, 1) := by decide +kernel
theorem dL_wins_284 : decode cL_wins 284 = .ok (.imul, 1) := by decide +kernel
theorem dL_wins_285 : decode cL_wins 285 = .ok (.istore 17, 2) := by decide +kernel
theorem dL_wins_287 : decode cL_wins 287 = .ok (.iload 17, 2) := by decide +kernel
theorem dL_wins_289 : decode cL_wins 289 = .ok (.ldc 143, 2) := by decide +kernel
theorem dL_wins_291 : decode cL_wins 291 = .ok (.iadd, 1) := by decide +kernel
theorem dL_wins_292 : decode cL_wins 292 = .ok (.sipush 8000, 3) := by decide +kernel
theorem dL_wins_295 : decode cL_wins 295 = .ok (.idiv, 1) := by decide +kernel
theorem dL_wins_296 : decode cL_wins 296 = .ok (.sipush 1000, 3) := by decide +kernel
theorem dL_wins_299 : decode cL_wins 299 = .ok (.isub, 1) := by decide +kernel
theorem dL_wins_300 : decode cL_wins 300 = .ok (.istore 18, 2) := by decide +kernel
theorem dL_wins_302 : decode cL_wins 302 = .ok (.aload 6, 2) := by decide +kernel
theorem dL_wins_304 : decode cL_wins 304 = .ok (.iload 14, 2) := by decide +kernel
theorem dL_wins_306 : decode cL_wins 306 = .ok (.iaload, 1) := by decide +kernel
theorem dL_wins_307 : decode cL_wins 307 = .ok (.iload 15, 2) := by decide +kernel
theorem dL_wins_309 : decode cL_wins 309 = .ok (.ifCond .eq 8, 3) := by decide +kernel
theorem dL_wins_312 : decode cL_wins 312 = .ok (.iload 18, 2) := by decide +kernel
theorem dL_wins_314 : decode cL_wins 314 = .ok (.goto 4, 3) := by decide +kernel
theorem dL_wins_317 : decode cL_wins 317 = .ok (.iconst 0, 1) := by decide +kernel
theorem dL_wins_318 : decode cL_wins 318 = .ok (.iadd, 1) := by decide +kernel
theorem dL_wins_319 : decode cL_wins 319 = .ok (.istore 19, 2) := by decide +kernel
theorem dL_wins_321 : decode cL_wins 321 = .ok (.iload 19, 2) := by decide +kernel
theorem dL_wins_323 : decode cL_wins 323 = .ok (.ifCond .ge 7, 3) := by decide +kernel
theorem dL_wins_326 : decode cL_wins 326 = .ok (.iconst 0, 1) := by decide +kernel
theorem dL_wins_327 : decode cL_wins 327 = .ok (.goto 19, 3) := by decide +kernel
theorem dL_wins_330 : decode cL_wins 330 = .ok (.iload 19, 2) := by decide +kernel
theorem dL_wins_332 : decode cL_wins 332 = .ok (.sipush 4000, 3) := by decide +kernel
theorem dL_wins_335 : decode cL_wins 335 = .ok (.if_icmp .le 9, 3) := by decide +kernel
theorem dL_wins_338 : decode cL_wins 338 = .ok (.sipush 4000, 3) := by decide +kernel
theorem dL_wins_341 : decode cL_wins 341 = .ok (.goto 5, 3) := by decide +kernel
theorem dL_wins_344 : decode cL_wins 344 = .ok (.iload 19, 2) := by decide +kernel
theorem dL_wins_346 : decode cL_wins 346 = .ok (.istore 19, 2) := by decide +kernel
theorem dL_wins_348 : decode cL_wins 348 = .ok (.aload 7, 2) := by decide +kernel
theorem dL_wins_350 : decode cL_wins 350 = .ok (.iload 14, 2) := by decide +kernel
theorem dL_wins_352 : decode cL_wins 352 = .ok (.iaload, 1) := by decide +kernel
theorem dL_wins_353 : decode cL_wins 353 = .ok (.bipush 9, 2) := by decide +kernel
theorem dL_wins_355 : decode cL_wins 355 = .ok (.imul, 1) := by decide +kernel
theorem dL_wins_356 : decode cL_wins 356 = .ok (.bipush 10, 2) := by decide +kernel
theorem dL_wins_358 : decode cL_wins 358 = .ok (.idiv, 1) := by decide +kernel
theorem dL_wins_359 : decode cL_wins 359 = .ok (.bipush 50, 2) := by decide +kernel
theorem dL_wins_361 : decode cL_wins 361 = .ok (.if_icmp .ge 8, 3) := by decide +kernel
theorem dL_wins_364 : decode cL_wins 364 = .ok (.bipush 50, 2) := by decide +kernel
theorem dL_wins_366 : decode cL_wins 366 = .ok (.goto 14, 3) := by decide +kernel
theorem dL_wins_369 : decode cL_wins 369 = .ok (.aload 7, 2) := by decide +kernel
theorem dL_wins_371 : decode cL_wins 371 = .ok (.iload 14, 2) := by decide +kernel
theorem dL_wins_373 : decode cL_wins 373 = .ok (.iaload, 1) := by decide +kernel
theorem dL_wins_374 : decode cL_wins 374 = .ok (.bipush 9, 2) := by decide +kernel
theorem dL_wins_376 : decode cL_wins 376 = .ok (.imul, 1) := by decide +kernel
theorem dL_wins_377 : decode cL_wins 377 = .ok (.bipush 10, 2) := by decide +kernel
theorem dL_wins_379 : decode cL_wins 379 = .ok (.idiv, 1) := by decide +kernel
theorem dL_wins_380 : decode cL_wins 380 = .ok (.istore 20, 2) := by decide +kernel
theorem dL_wins_382 : decode cL_wins 382 = .ok (.aload_n 0, 1) := by decide +kernel
theorem dL_wins_383 : decode cL_wins 383 = .ok (.iload 14, 2) := by decide +kernel
theorem dL_wins_385 : decode cL_wins 385 = .ok (.invokevirtual 51, 3) := by decide +kernel
theorem dL_wins_388 : decode cL_wins 388 = .ok (.iload 19, 2) := by decide +kernel
theorem dL_wins_390 : decode cL_wins 390 = .ok (.if_icmp .ne 68, 3) := by decide +kernel
theorem dL_wins_393 : decode cL_wins 393 = .ok (.aload_n 0, 1) := by decide +kernel
theorem dL_wins_394 : decode cL_wins 394 = .ok (.iload 14, 2) := by decide +kernel
theorem dL_wins_396 : decode cL_wins 396 = .ok (.invokevirtual 95, 3) := by decide +kernel
theorem dL_wins_399 : decode cL_wins 399 = .ok (.iload 15, 2) := by decide +kernel
theorem dL_wins_401 : decode cL_wins 401 = .ok (.ifCond .eq 8, 3) := by decide +kernel
theorem dL_wins_404 : decode cL_wins 404 = .ok (.iload 20, 2) := by decide +kernel
theorem dL_wins_406 : decode cL_wins 406 = .ok (.goto 8, 3) := by decide +kernel
theorem dL_wins_409 : decode cL_wins 409 = .ok (.aload 7, 2) := by decide +kernel
theorem dL_wins_411 : decode cL_wins 411 = .ok (.iload 14, 2) := by decide +kernel
theorem dL_wins_413 : decode cL_wins 413 = .ok (.iaload, 1) := by decide +kernel
theorem dL_wins_414 : decode cL_wins 414 = .ok (.if_icmp .ne 44, 3) := by decide +kernel
theorem dL_wins_417 : decode cL_wins 417 = .ok (.aload_n 0, 1) := by decide +kernel
theorem dL_wins_418 : decode cL_wins 418 = .ok (.iload 14, 2) := by decide +kernel
theorem dL_wins_420 : decode cL_wins 420 = .ok (.invokevirtual 98, 3) := by decide +kernel
theorem dL_wins_423 : decode cL_wins 423 = .ok (.iload 15, 2) := by decide +kernel
theorem dL_wins_425 : decode cL_wins 425 = .ok (.ifCond .eq 21, 3) := by decide +kernel
theorem dL_wins_428 : decode cL_wins 428 = .ok (.aload 8, 2) := by decide +kernel
theorem dL_wins_430 : decode cL_wins 430 = .ok (.iload 14, 2) := by decide +kernel
theorem dL_wins_432 : decode cL_wins 432 = .ok (.iaload, 1) := by decide +kernel
theorem dL_wins_433 : decode cL_wins 433 = .ok (.ifCond .le 13, 3) := by decide +kernel
theorem dL_wins_436 : decode cL_wins 436 = .ok (.aload 8, 2) := by decide +kernel
theorem dL_wins_438 : decode cL_wins 438 = .ok (.iload 14, 2) := by decide +kernel
theorem dL_wins_440 : decode cL_wins 440 = .ok (.iaload, 1) := by decide +kernel
theorem dL_wins_441 : decode cL_wins 441 = .ok (.iconst 1, 1) := by decide +kernel
theorem dL_wins_442 : decode cL_wins 442 = .ok (.isub, 1) := by decide +kernel
theorem dL_wins_443 : decode cL_wins 443 = .ok (.goto 8, 3) := by decide +kernel
theorem dL_wins_446 : decode cL_wins 446 = .ok (.aload 8, 2) := by decide +kernel
theorem dL_wins_448 : decode cL_wins 448 = .ok (.iload 14, 2) := by decide +kernel
theorem dL_wins_450 : decode cL_wins 450 = .ok (.iaload, 1) := by decide +kernel
theorem dL_wins_451 : decode cL_wins 451 = .ok (.if_icmp .ne 7, 3) := by decide +kernel
theorem dL_wins_454 : decode cL_wins 454 = .ok (.iconst 1, 1) := by decide +kernel
theorem dL_wins_455 : decode cL_wins 455 = .ok (.goto 4, 3) := by decide +kernel
theorem dL_wins_458 : decode cL_wins 458 = .ok (.iconst 0, 1) := by decide +kernel
theorem dL_wins_459 : decode cL_wins 459 = .ok (.istore 13, 2) := by decide +kernel
theorem dL_wins_461 : decode cL_wins 461 = .ok (.iinc 14 1, 3) := by decide +kernel
theorem dL_wins_464 : decode cL_wins 464 = .ok (.goto (-275), 3) := by decide +kernel
theorem dL_wins_467 : decode cL_wins 467 = .ok (.iload 9, 2) := by decide +kernel
theorem dL_wins_469 : decode cL_wins 469 = .ok (.ifCond .eq 69, 3) := by decide +kernel
theorem dL_wins_472 : decode cL_wins 472 = .ok (.aload 4, 2) := by decide +kernel
theorem dL_wins_474 : decode cL_wins 474 = .ok (.iload_n 1, 1) := by decide +kernel
theorem dL_wins_475 : decode cL_wins 475 = .ok (.aload 4, 2) := by decide +kernel
theorem dL_wins_477 : decode cL_wins 477 = .ok (.iload_n 1, 1) := by decide +kernel
theorem dL_wins_478 : decode cL_wins 478 = .ok (.iaload, 1) := by decide +kernel
theorem dL_wins_479 : decode cL_wins 479 = .ok (.ldc 91, 2) := by decide +kernel
theorem dL_wins_481 : decode cL_wins 481 = .ok (.iand, 1) := by decide +kernel
theorem dL_wins_482 : decode cL_wins 482 = .ok (.ldc 144, 2) := by decide +kernel
theorem dL_wins_484 : decode cL_wins 484 = .ok (.ior, 1) := by decide +kernel
theorem dL_wins_485 : decode cL_wins 485 = .ok (.iastore, 1) := by decide +kernel
theorem dL_wins_486 : decode cL_wins 486 = .ok (.iconst 0, 1) := by decide +kernel
theorem dL_wins_487 : decode cL_wins 487 = .ok (.istore 14, 2) := by decide +kernel
theorem dL_wins_489 : decode cL_wins 489 = .ok (.iload 14, 2) := by decide +kernel
theorem dL_wins_491 : decode cL_wins 491 = .ok (.aload 5, 2) := by decide +kernel
theorem dL_wins_493 : decode cL_wins 493 = .ok (.iconst 2, 1) := by decide +kernel
theorem dL_wins_494 : decode cL_wins 494 = .ok (.iaload, 1) := by decide +kernel
theorem dL_wins_495 : decode cL_wins 495 = .ok (.if_icmp .ge 43, 3) := by decide +kernel
theorem dL_wins_498 : decode cL_wins 498 = .ok (.aload_n 3, 1) := by decide +kernel
theorem dL_wins_499 : decode cL_wins 499 = .ok (.iload 14, 2) := by decide +kernel
theorem dL_wins_501 : decode cL_wins 501 = .ok (.aload_n 3, 1) := by decide +kernel
theorem dL_wins_502 : decode cL_wins 502 = .ok (.iload 14, 2) := by decide +kernel
theorem dL_wins_504 : decode cL_wins 504 = .ok (.laload, 1) := by decide +kernel
theorem dL_wins_505 : decode cL_wins 505 = .ok (.bipush 41, 2) := by decide +kernel
theorem dL_wins_507 : decode cL_wins 507 = .ok (.lshr, 1) := by decide +kernel
theorem dL_wins_508 : decode cL_wins 508 = .ok (.iload_n 1, 1) := by decide +kernel
theorem dL_wins_509 : decode cL_wins 509 = .ok (.i2l, 1) := by decide +kernel
theorem dL_wins_510 : decode cL_wins 510 = .ok (.lconst 1, 1) := by decide +kernel
theorem dL_wins_511 : decode cL_wins 511 = .ok (.ladd, 1) := by decide +kernel
theorem dL_wins_512 : decode cL_wins 512 = .ok (.lcmp, 1) := by decide +kernel
theorem dL_wins_513 : decode cL_wins 513 = .ok (.ifCond .ne 14, 3) := by decide +kernel
theorem dL_wins_516 : decode cL_wins 516 = .ok (.aload_n 3, 1) := by decide +kernel
theorem dL_wins_517 : decode cL_wins 517 = .ok (.iload 14, 2) := by decide +kernel
theorem dL_wins_519 : decode cL_wins 519 = .ok (.laload, 1) := by decide +kernel
theorem dL_wins_520 : decode cL_wins 520 = .ok (.ldc2_w 130, 3) := by decide +kernel
theorem dL_wins_523 : decode cL_wins 523 = .ok (.land, 1) := by decide +kernel
theorem dL_wins_524 : decode cL_wins 524 = .ok (.goto 7, 3) := by decide +kernel
theorem dL_wins_527 : decode cL_wins 527 = .ok (.aload_n 3, 1) := by decide +kernel
theorem dL_wins_528 : decode cL_wins 528 = .ok (.iload 14, 2) := by decide +kernel
theorem dL_wins_530 : decode cL_wins 530 = .ok (.laload, 1) := by decide +kernel
theorem dL_wins_531 : decode cL_wins 531 = .ok (.lastore, 1) := by decide +kernel
theorem dL_wins_532 : decode cL_wins 532 = .ok (.iinc 14 1, 3) := by decide +kernel
theorem dL_wins_535 : decode cL_wins 535 = .ok (.goto (-46), 3) := by decide +kernel
theorem dL_wins_538 : decode cL_wins 538 = .ok (.iload 13, 2) := by decide +kernel
theorem dL_wins_540 : decode cL_wins 540 = .ok (.ireturn, 1) := by decide +kernel
set_option maxRecDepth 20000 in
theorem ggL_passes_X5_level : GoodIn wsL_passes wsX5_level := goodIn_ca (goodIn_r _ [7, 8, 9, 10, 11, 6, 12, 13, 14, 15, 16, 17, 18, 19, 20, 21, 22, 23, 24, 25, 26, 27, 28, 29, 30, 31, 32, 33, 34, 35, 36, 37, 38, 39, 107, 108, 109, 110, 111, 112, 113, 114, 115, 116, 117, 118, 119, 120] (by decide +kernel) (by decide +kernel)) (goodIn_sub (fun _ h => List.mem_cons_of_mem _ (List.mem_append_left _ (List.mem_append_left _ (List.mem_append_right _ h)))) (by decide +kernel))
set_option maxRecDepth 20000 in
theorem gL_passes_X5_level : GoodIn wsL_passes (wsV RL 98 RX5 yX5_level wsX5_level) := goodIn_app (goodIn_of _ (by decide +kernel)) ggL_passes_X5_level
set_option maxRecDepth 20000 in
theorem ggL_passes_X5_pass : GoodIn wsL_passes wsX5_pass := goodIn_ca (goodIn_ca (goodIn_r _ [43, 44, 45, 46, 47, 48, 49, 50, 51, 52, 53, 17, 18, 19, 20, 21, 22, 23, 24, 25, 26, 27, 28, 29, 30, 31, 32, 33, 34, 35, 36, 37, 38, 39, 54, 55, 56, 6, 57, 15, 58, 16, 59, 60, 61, 62, 63, 64, 65, 66, 67, 68, 69, 70, 71, 72, 73, 74, 75, 76, 77, 78, 79, 80, 81, 82, 83, 84, 85, 86, 87, 88, 89, 113, 114, 115, 116, 117, 121, 122, 123, 124, 125, 126, 127, 118, 119, 120, 128, 129, 130, 131, 132, 107, 108, 109, 110, 111, 112] (by decide +kernel) (by decide +kernel)) (goodIn_sub (fun _ h => List.mem_cons_of_mem _ (List.mem_append_left _ (List.mem_append_right _ h))) (by decide +kernel))) (goodIn_sub (fun _ h => List.mem_cons_of_mem _ (List.mem_append_right _ h)) (by decide +kernel))
set_option maxRecDepth 20000 in
theorem gL_passes_X5_pass : GoodIn wsL_passes (wsV RL 145 RX5 yX5_pass wsX5_pass) := goodIn_app (goodIn_of _ (by decide +kernel)) ggL_passes_X5_pass
set_option maxRecDepth 20000 in
theorem ggL_passes_L_ends : GoodIn wsL_passes wsL_ends := goodIn_r _ [93, 2, 94, 95, 96, 97, 98, 92, 99, 100] (by decide +kernel) (by decide +kernel)
set_option maxRecDepth 20000 in
theorem gL_passes_L_ends : GoodIn wsL_passes (va_wsS RL 135 yL_ends wsL_ends) := goodIn_app (goodIn_of _ (by decide +kernel)) ggL_passes_L_ends
set_option maxRecDepth 20000 in
theorem ggL_passes_L_has : GoodIn wsL_passes wsL_has := goodIn_r _ [103] (by decide +kernel) (by decide +kernel)
set_option maxRecDepth 20000 in
theorem gL_passes_L_has : GoodIn wsL_passes (va_wsS RL 48 yL_has wsL_has) := goodIn_app (goodIn_of _ (by decide +kernel)) ggL_passes_L_has
set_option maxRecDepth 20000 in
theorem ggL_passes_L_bar : GoodIn wsL_passes wsL_bar := goodIn_r _ [106] (by decide +kernel) (by decide +kernel)
set_option maxRecDepth 20000 in
theorem gL_passes_L_bar : GoodIn wsL_passes (va_wsS RL 139 yL_bar wsL_bar) := goodIn_app (goodIn_of _ (by decide +kernel)) ggL_passes_L_bar
theorem dL_passes_0 : decode cL_passes 0 = .ok (.bipush 18, 2) := by decide +kernel
theorem dL_passes_2 : decode cL_passes 2 = .ok (.newarray .int, 2) := by decide +kernel
theorem dL_passes_4 : decode cL_passes 4 = .ok (.astore 8, 2) := by decide +kernel
theorem dL_passes_6 : decode cL_passes 6 = .ok (.iconst 0, 1) := by decide +kernel
theorem dL_passes_7 : decode cL_passes 7 = .ok (.istore 9, 2) := by decide +kernel
theorem dL_passes_9 : decode cL_passes 9 = .ok (.iconst 0, 1) := by decide +kernel
theorem dL_passes_10 : decode cL_passes 10 = .ok (.istore 10, 2) := by decide +kernel
theorem dL_passes_12 : decode cL_passes 12 = .ok (.iconst 0, 1) := by decide +kernel
theorem dL_passes_13 : decode cL_passes 13 = .ok (.istore 11, 2) := by decide +kernel
theorem dL_passes_15 : decode cL_passes 15 = .ok (.iload 11, 2) := by decide +kernel
theorem dL_passes_17 : decode cL_passes 17 = .ok (.aload 7, 2) := by decide +kernel
theorem dL_passes_19 : decode cL_passes 19 = .ok (.iconst 1, 1) := by decide +kernel
theorem dL_passes_20 : decode cL_passes 20 = .ok (.iaload, 1) := by decide +kernel
theorem dL_passes_21 : decode cL_passes 21 = .ok (.if_icmp .ge 20, 3) := by decide +kernel
theorem dL_passes_24 : decode cL_passes 24 = .ok (.aload 8, 2) := by decide +kernel
theorem dL_passes_26 : decode cL_passes 26 = .ok (.iload 11, 2) := by decide +kernel
theorem dL_passes_28 : decode cL_passes 28 = .ok (.aload_n 0, 1) := by decide +kernel
theorem dL_passes_29 : decode cL_passes 29 = .ok (.iload 11, 2) := by decide +kernel
theorem dL_passes_31 : decode cL_passes 31 = .ok (.invokevirtual 98, 3) := by decide +kernel
theorem dL_passes_34 : decode cL_passes 34 = .ok (.iastore, 1) := by decide +kernel
theorem dL_passes_35 : decode cL_passes 35 = .ok (.iinc 11 1, 3) := by decide +kernel
theorem dL_passes_38 : decode cL_passes 38 = .ok (.goto (-23), 3) := by decide +kernel
theorem dL_passes_41 : decode cL_passes 41 = .ok (.aload_n 0, 1) := by decide +kernel
theorem dL_passes_42 : decode cL_passes 42 = .ok (.iload_n 1, 1) := by decide +kernel
theorem dL_passes_43 : decode cL_passes 43 = .ok (.invokevirtual 145, 3) := by decide +kernel
theorem dL_passes_46 : decode cL_passes 46 = .ok (.istore 11, 2) := by decide +kernel
theorem dL_passes_48 : decode cL_passes 48 = .ok (.iconst 0, 1) := by decide +kernel
theorem dL_passes_49 : decode cL_passes 49 = .ok (.istore 12, 2) := by decide +kernel
theorem dL_passes_51 : decode cL_passes 51 = .ok (.iload 12, 2) := by decide +kernel
theorem dL_passes_53 : decode cL_passes 53 = .ok (.iload_n 1, 1) := by decide +kernel
theorem dL_passes_54 : decode cL_passes 54 = .ok (.if_icmp .ge 173, 3) := by decide +kernel
theorem dL_passes_57 : decode cL_passes 57 = .ok (.aload 7, 2) := by decide +kernel
theorem dL_passes_59 : decode cL_passes 59 = .ok (.iconst 0, 1) := by decide +kernel
theorem dL_passes_60 : decode cL_passes 60 = .ok (.dup2, 1) := by decide +kernel
theorem dL_passes_61 : decode cL_passes 61 = .ok (.iaload, 1) := by decide +kernel
theorem dL_passes_62 : decode cL_passes 62 = .ok (.iconst 1, 1) := by decide +kernel
theorem dL_passes_63 : decode cL_passes 63 = .ok (.iadd, 1) := by decide +kernel
theorem dL_passes_64 : decode cL_passes 64 = .ok (.iastore, 1) := by decide +kernel
theorem dL_passes_65 : decode cL_passes 65 = .ok (.iconst 0, 1) := by decide +kernel
theorem dL_passes_66 : decode cL_passes 66 = .ok (.istore 13, 2) := by decide +kernel
theorem dL_passes_68 : decode cL_passes 68 = .ok (.iload 13, 2) := by decide +kernel
theorem dL_passes_70 : decode cL_passes 70 = .ok (.aload 7, 2) := by decide +kernel
theorem dL_passes_72 : decode cL_passes 72 = .ok (.iconst 3, 1) := by decide +kernel
theorem dL_passes_73 : decode cL_passes 73 = .ok (.iaload, 1) := by decide +kernel
theorem dL_passes_74 : decode cL_passes 74 = .ok (.if_icmp .ge 147, 3) := by decide +kernel
theorem dL_passes_77 : decode cL_passes 77 = .ok (.aload_n 3, 1) := by decide +kernel
theorem dL_passes_78 : decode cL_passes 78 = .ok (.iload 13, 2) := by decide +kernel
theorem dL_passes_80 : decode cL_passes 80 = .ok (.iaload, 1) := by decide +kernel
theorem dL_passes_81 : decode cL_passes 81 = .ok (.bipush 18, 2) := by decide +kernel
theorem dL_passes_83 : decode cL_passes 83 = .ok (.ishr, 1) := by decide +kernel
theorem dL_passes_84 : decode cL_passes 84 = .ok (.iconst 3, 1) := by decide +kernel
theorem dL_passes_85 : decode cL_passes 85 = .ok (.iand, 1) := by decide +kernel
theorem dL_passes_86 : decode cL_passes 86 = .ok (.ifCond .ne 129, 3) := by decide +kernel
theorem dL_passes_89 : decode cL_passes 89 = .ok (.aload 6, 2) := by decide +kernel
theorem dL_passes_91 : decode cL_passes 91 = .ok (.iload 13, 2) := by decide +kernel
theorem dL_passes_93 : decode cL_passes 93 = .ok (.iaload, 1) := by decide +kernel
theorem dL_passes_94 : decode cL_passes 94 = .ok (.iconst 3, 1) := by decide +kernel
theorem dL_passes_95 : decode cL_passes 95 = .ok (.iadd, 1) := by decide +kernel
theorem dL_passes_96 : decode cL_passes 96 = .ok (.aload 7, 2) := by decide +kernel
theorem dL_passes_98 : decode cL_passes 98 = .ok (.iconst 0, 1) := by decide +kernel
theorem dL_passes_99 : decode cL_passes 99 = .ok (.iaload, 1) := by decide +kernel
theorem dL_passes_100 : decode cL_passes 100 = .ok (.if_icmp .ne 115, 3) := by decide +kernel
theorem dL_passes_103 : decode cL_passes 103 = .ok (.aload_n 3, 1) := by decide +kernel
theorem dL_passes_104 : decode cL_passes 104 = .ok (.iload 13, 2) := by decide +kernel
theorem dL_passes_106 : decode cL_passes 106 = .ok (.iaload, 1) := by decide +kernel
theorem dL_passes_107 : decode cL_passes 107 = .ok (.ldc 91, 2) := by decide +kernel
theorem dL_passes_109 : decode cL_passes 109 = .ok (.iand, 1) := by decide +kernel
theorem dL_passes_110 : decode cL_passes 110 = .ok (.aload 5, 2) := by decide +kernel
theorem dL_passes_112 : decode cL_passes 112 = .ok (.iload 13, 2) := by decide +kernel
theorem dL_passes_114 : decode cL_passes 114 = .ok (.iaload, 1) := by decide +kernel
theorem dL_passes_115 : decode cL_passes 115 = .ok (.iconst (-1), 1) := by decide +kernel
theorem dL_passes_116 : decode cL_passes 116 = .ok (.ixor, 1) := by decide +kernel
theorem dL_passes_117 : decode cL_passes 117 = .ok (.iand, 1) := by decide +kernel
theorem dL_passes_118 : decode cL_passes 118 = .ok (.istore 14, 2) := by decide +kernel
theorem dL_passes_120 : decode cL_passes 120 = .ok (.aload_n 2, 1) := by decide +kernel
theorem dL_passes_121 : decode cL_passes 121 = .ok (.aload_n 3, 1) := by decide +kernel
theorem dL_passes_122 : decode cL_passes 122 = .ok (.aload 7, 2) := by decide +kernel
theorem dL_passes_124 : decode cL_passes 124 = .ok (.iload 13, 2) := by decide +kernel
theorem dL_passes_126 : decode cL_passes 126 = .ok (.iload 14, 2) := by decide +kernel
theorem dL_passes_128 : decode cL_passes 128 = .ok (.invokestatic 135, 3) := by decide +kernel
theorem dL_passes_131 : decode cL_passes 131 = .ok (.iload 10, 2) := by decide +kernel
theorem dL_passes_133 : decode cL_passes 133 = .ok (.iload 14, 2) := by decide +kernel
theorem dL_passes_135 : decode cL_passes 135 = .ok (.ior, 1) := by decide +kernel
theorem dL_passes_136 : decode cL_passes 136 = .ok (.istore 10, 2) := by decide +kernel
theorem dL_passes_138 : decode cL_passes 138 = .ok (.iinc 9 1, 3) := by decide +kernel
theorem dL_passes_141 : decode cL_passes 141 = .ok (.iconst 0, 1) := by decide +kernel
theorem dL_passes_142 : decode cL_passes 142 = .ok (.istore 15, 2) := by decide +kernel
theorem dL_passes_144 : decode cL_passes 144 = .ok (.iload 15, 2) := by decide +kernel
theorem dL_passes_146 : decode cL_passes 146 = .ok (.aload 7, 2) := by decide +kernel
theorem dL_passes_148 : decode cL_passes 148 = .ok (.iconst 1, 1) := by decide +kernel
theorem dL_passes_149 : decode cL_passes 149 = .ok (.iaload, 1) := by decide +kernel
theorem dL_passes_150 : decode cL_passes 150 = .ok (.if_icmp .ge 65, 3) := by decide +kernel
theorem dL_passes_153 : decode cL_passes 153 = .ok (.iload 14, 2) := by decide +kernel
theorem dL_passes_155 : decode cL_passes 155 = .ok (.iload 15, 2) := by decide +kernel
theorem dL_passes_157 : decode cL_passes 157 = .ok (.invokestatic 48, 3) := by decide +kernel
theorem dL_passes_160 : decode cL_passes 160 = .ok (.ifCond .eq 21, 3) := by decide +kernel
theorem dL_passes_163 : decode cL_passes 163 = .ok (.aload_n 0, 1) := by decide +kernel
theorem dL_passes_164 : decode cL_passes 164 = .ok (.aload 4, 2) := by decide +kernel
theorem dL_passes_166 : decode cL_passes 166 = .ok (.aload 7, 2) := by decide +kernel
theorem dL_passes_168 : decode cL_passes 168 = .ok (.iload 15, 2) := by decide +kernel
theorem dL_passes_170 : decode cL_passes 170 = .ok (.aload 8, 2) := by decide +kernel
theorem dL_passes_172 : decode cL_passes 172 = .ok (.iload 15, 2) := by decide +kernel
theorem dL_passes_174 : decode cL_passes 174 = .ok (.iaload, 1) := by decide +kernel
theorem dL_passes_175 : decode cL_passes 175 = .ok (.invokestatic 139, 3) := by decide +kernel
theorem dL_passes_178 : decode cL_passes 178 = .ok (.goto 4, 3) := by decide +kernel
theorem dL_passes_181 : decode cL_passes 181 = .ok (.iconst 0, 1) := by decide +kernel
theorem dL_passes_182 : decode cL_passes 182 = .ok (.istore 16, 2) := by decide +kernel
theorem dL_passes_184 : decode cL_passes 184 = .ok (.aload 4, 2) := by decide +kernel
theorem dL_passes_186 : decode cL_passes 186 = .ok (.iload 15, 2) := by decide +kernel
theorem dL_passes_188 : decode cL_passes 188 = .ok (.iload 16, 2) := by decide +kernel
theorem dL_passes_190 : decode cL_passes 190 = .ok (.ifCond .le 13, 3) := by decide +kernel
theorem dL_passes_193 : decode cL_passes 193 = .ok (.aload 7, 2) := by decide +kernel
theorem dL_passes_195 : decode cL_passes 195 = .ok (.iconst 0, 1) := by decide +kernel
theorem dL_passes_196 : decode cL_passes 196 = .ok (.iaload, 1) := by decide +kernel
theorem dL_passes_197 : decode cL_passes 197 = .ok (.iload 16, 2) := by decide +kernel
theorem dL_passes_199 : decode cL_passes 199 = .ok (.iadd, 1) := by decide +kernel
theorem dL_passes_200 : decode cL_passes 200 = .ok (.goto 8, 3) := by decide +kernel
theorem dL_passes_203 : decode cL_passes 203 = .ok (.aload 4, 2) := by decide +kernel
theorem dL_passes_205 : decode cL_passes 205 = .ok (.iload 15, 2) := by decide +kernel
theorem dL_passes_207 : decode cL_passes 207 = .ok (.iaload, 1) := by decide +kernel
theorem dL_passes_208 : decode cL_passes 208 = .ok (.iastore, 1) := by decide +kernel
theorem dL_passes_209 : decode cL_passes 209 = .ok (.iinc 15 1, 3) := by decide +kernel
theorem dL_passes_212 : decode cL_passes 212 = .ok (.goto (-68), 3) := by decide +kernel
theorem dL_passes_215 : decode cL_passes 215 = .ok (.iinc 13 1, 3) := by decide +kernel
theorem dL_passes_218 : decode cL_passes 218 = .ok (.goto (-150), 3) := by decide +kernel
theorem dL_passes_221 : decode cL_passes 221 = .ok (.iinc 12 1, 3) := by decide +kernel
theorem dL_passes_224 : decode cL_passes 224 = .ok (.goto (-173), 3) := by decide +kernel
theorem dL_passes_227 : decode cL_passes 227 = .ok (.iload 11, 2) := by decide +kernel
theorem dL_passes_229 : decode cL_passes 229 = .ok (.iload 9, 2) := by decide +kernel
theorem dL_passes_231 : decode cL_passes 231 = .ok (.if_icmp .ne 7, 3) := by decide +kernel
theorem dL_passes_234 : decode cL_passes 234 = .ok (.iconst 1, 1) := by decide +kernel
theorem dL_passes_235 : decode cL_passes 235 = .ok (.goto 4, 3) := by decide +kernel
theorem dL_passes_238 : decode cL_passes 238 = .ok (.iconst 0, 1) := by decide +kernel
theorem dL_passes_239 : decode cL_passes 239 = .ok (.istore 12, 2) := by decide +kernel
theorem dL_passes_241 : decode cL_passes 241 = .ok (.iconst 0, 1) := by decide +kernel
theorem dL_passes_242 : decode cL_passes 242 = .ok (.istore 13, 2) := by decide +kernel
theorem dL_passes_244 : decode cL_passes 244 = .ok (.iload 13, 2) := by decide +kernel
theorem dL_passes_246 : decode cL_passes 246 = .ok (.aload 7, 2) := by decide +kernel
theorem dL_passes_248 : decode cL_passes 248 = .ok (.iconst 1, 1) := by decide +kernel
theorem dL_passes_249 : decode cL_passes 249 = .ok (.iaload, 1) := by decide +kernel
theorem dL_passes_250 : decode cL_passes 250 = .ok (.if_icmp .ge 64, 3) := by decide +kernel
theorem dL_passes_253 : decode cL_passes 253 = .ok (.iload 12, 2) := by decide +kernel
theorem dL_passes_255 : decode cL_passes 255 = .ok (.ifCond .eq 59, 3) := by decide +kernel
theorem dL_passes_258 : decode cL_passes 258 = .ok (.aload_n 0, 1) := by decide +kernel
theorem dL_passes_259 : decode cL_passes 259 = .ok (.iload 13, 2) := by decide +kernel
theorem dL_passes_261 : decode cL_passes 261 = .ok (.invokevirtual 98, 3) := by decide +kernel
theorem dL_passes_264 : decode cL_passes 264 = .ok (.iload 10, 2) := by decide +kernel
theorem dL_passes_266 : decode cL_passes 266 = .ok (.iload 13, 2) := by decide +kernel
theorem dL_passes_268 : decode cL_passes 268 = .ok (.invokestatic 48, 3) := by decide +kernel
theorem dL_passes_271 : decode cL_passes 271 = .ok (.ifCond .eq 22, 3) := by decide +kernel
theorem dL_passes_274 : decode cL_passes 274 = .ok (.aload 8, 2) := by decide +kernel
theorem dL_passes_276 : decode cL_passes 276 = .ok (.iload 13, 2) := by decide +kernel
theorem dL_passes_278 : decode cL_passes 278 = .ok (.iaload, 1) := by decide +kernel
theorem dL_passes_279 : decode cL_passes 279 = .ok (.iconst 5, 1) := by decide +kernel
theorem dL_passes_280 : decode cL_passes 280 = .ok (.if_icmp .ge 13, 3) := by decide +kernel
theorem dL_passes_283 : decode cL_passes 283 = .ok (.aload 8, 2) := by decide +kernel
theorem dL_passes_285 : decode cL_passes 285 = .ok (.iload 13, 2) := by decide +kernel
theorem dL_passes_287 : decode cL_passes 287 = .ok (.iaload, 1) := by decide +kernel
theorem dL_passes_288 : decode cL_passes 288 = .ok (.iconst 1, 1) := by decide +kernel
theorem dL_passes_289 : decode cL_passes 289 = .ok (.iadd, 1) := by decide +kernel
theorem dL_passes_290 : decode cL_passes 290 = .ok (.goto 8, 3) := by decide +kernel
theorem dL_passes_293 : decode cL_passes 293 = .ok (.aload 8, 2) := by decide +kernel
theorem dL_passes_295 : decode cL_passes 295 = .ok (.iload 13, 2) := by decide +kernel
theorem dL_passes_297 : decode cL_passes 297 = .ok (.iaload, 1) := by decide +kernel
theorem dL_passes_298 : decode cL_passes 298 = .ok (.if_icmp .ne 7, 3) := by decide +kernel
theorem dL_passes_301 : decode cL_passes 301 = .ok (.iconst 1, 1) := by decide +kernel
theorem dL_passes_302 : decode cL_passes 302 = .ok (.goto 4, 3) := by decide +kernel
theorem dL_passes_305 : decode cL_passes 305 = .ok (.iconst 0, 1) := by decide +kernel
theorem dL_passes_306 : decode cL_passes 306 = .ok (.istore 12, 2) := by decide +kernel
theorem dL_passes_308 : decode cL_passes 308 = .ok (.iinc 13 1, 3) := by decide +kernel
theorem dL_passes_311 : decode cL_passes 311 = .ok (.goto (-67), 3) := by decide +kernel
theorem dL_passes_314 : decode cL_passes 314 = .ok (.iload 12, 2) := by decide +kernel
theorem dL_passes_316 : decode cL_passes 316 = .ok (.ireturn, 1) := by decide +kernel
set_option maxRecDepth 20000 in
theorem ggL_free_L_size : GoodIn wsL_free wsL_size := goodIn_r _ [4] (by decide +kernel) (by decide +kernel)
set_option maxRecDepth 20000 in
theorem gL_free_L_size : GoodIn wsL_free (va_wsS RL 62 yL_size wsL_size) := goodIn_app (goodIn_of _ (by decide +kernel)) ggL_free_L_size
set_option maxRecDepth 20000 in
theorem ggL_free_X5_state : GoodIn wsL_free wsX5_state := goodIn_ca (goodIn_r _ [9, 10, 11, 12, 8, 13, 14, 15, 16, 17, 18, 19, 20, 21, 22, 23, 24, 25, 26, 27, 28, 29, 30, 31, 32, 33, 34, 35, 36, 37, 38, 39, 40, 41, 42, 43, 44, 45, 46, 47, 48, 49, 50, 51, 52, 53, 54, 55, 56, 57, 58, 59, 60, 61, 62, 63, 64, 65, 66] (by decide +kernel) (by decide +kernel)) (goodIn_sub (fun _ h => List.mem_cons_of_mem _ (List.mem_append_right _ h)) (by decide +kernel))
set_option maxRecDepth 20000 in
theorem gL_free_X5_state : GoodIn wsL_free (wsV RL 92 RX5 yX5_state wsX5_state) := goodIn_app (goodIn_of _ (by decide +kernel)) ggL_free_X5_state
theorem dL_free_0 : decode cL_free 0 = .ok (.iconst 0, 1) := by decide +kernel
theorem dL_free_1 : decode cL_free 1 = .ok (.istore 5, 2) := by decide +kernel
theorem dL_free_3 : decode cL_free 3 = .ok (.iconst 0, 1) := by decide +kernel
theorem dL_free_4 : decode cL_free 4 = .ok (.istore 6, 2) := by decide +kernel
theorem dL_free_6 : decode cL_free 6 = .ok (.iload 6, 2) := by decide +kernel
theorem dL_free_8 : decode cL_free 8 = .ok (.aload_n 2, 1) := by decide +kernel
theorem dL_free_9 : decode cL_free 9 = .ok (.iconst 1, 1) := by decide +kernel
theorem dL_free_10 : decode cL_free 10 = .ok (.iaload, 1) := by decide +kernel
theorem dL_free_11 : decode cL_free 11 = .ok (.if_icmp .ge 61, 3) := by decide +kernel
theorem dL_free_14 : decode cL_free 14 = .ok (.iload_n 3, 1) := by decide +kernel
theorem dL_free_15 : decode cL_free 15 = .ok (.iload 6, 2) := by decide +kernel
theorem dL_free_17 : decode cL_free 17 = .ok (.iadd, 1) := by decide +kernel
theorem dL_free_18 : decode cL_free 18 = .ok (.aload_n 2, 1) := by decide +kernel
theorem dL_free_19 : decode cL_free 19 = .ok (.iconst 1, 1) := by decide +kernel
theorem dL_free_20 : decode cL_free 20 = .ok (.iaload, 1) := by decide +kernel
theorem dL_free_21 : decode cL_free 21 = .ok (.irem, 1) := by decide +kernel
theorem dL_free_22 : decode cL_free 22 = .ok (.istore 7, 2) := by decide +kernel
theorem dL_free_24 : decode cL_free 24 = .ok (.iload 5, 2) := by decide +kernel
theorem dL_free_26 : decode cL_free 26 = .ok (.iload 5, 2) := by decide +kernel
theorem dL_free_28 : decode cL_free 28 = .ok (.invokestatic 62, 3) := by decide +kernel
theorem dL_free_31 : decode cL_free 31 = .ok (.iload 4, 2) := by decide +kernel
theorem dL_free_33 : decode cL_free 33 = .ok (.if_icmp .ge 29, 3) := by decide +kernel
theorem dL_free_36 : decode cL_free 36 = .ok (.aload_n 0, 1) := by decide +kernel
theorem dL_free_37 : decode cL_free 37 = .ok (.iload 7, 2) := by decide +kernel
theorem dL_free_39 : decode cL_free 39 = .ok (.invokevirtual 92, 3) := by decide +kernel
theorem dL_free_42 : decode cL_free 42 = .ok (.ifCond .ne 20, 3) := by decide +kernel
theorem dL_free_45 : decode cL_free 45 = .ok (.aload_n 1, 1) := by decide +kernel
theorem dL_free_46 : decode cL_free 46 = .ok (.iload 7, 2) := by decide +kernel
theorem dL_free_48 : decode cL_free 48 = .ok (.iaload, 1) := by decide +kernel
theorem dL_free_49 : decode cL_free 49 = .ok (.aload_n 2, 1) := by decide +kernel
theorem dL_free_50 : decode cL_free 50 = .ok (.iconst 0, 1) := by decide +kernel
theorem dL_free_51 : decode cL_free 51 = .ok (.iaload, 1) := by decide +kernel
theorem dL_free_52 : decode cL_free 52 = .ok (.if_icmp .gt 10, 3) := by decide +kernel
theorem dL_free_55 : decode cL_free 55 = .ok (.iconst 1, 1) := by decide +kernel
theorem dL_free_56 : decode cL_free 56 = .ok (.iload 7, 2) := by decide +kernel
theorem dL_free_58 : decode cL_free 58 = .ok (.ishl, 1) := by decide +kernel
theorem dL_free_59 : decode cL_free 59 = .ok (.goto 4, 3) := by decide +kernel
theorem dL_free_62 : decode cL_free 62 = .ok (.iconst 0, 1) := by decide +kernel
theorem dL_free_63 : decode cL_free 63 = .ok (.ior, 1) := by decide +kernel
theorem dL_free_64 : decode cL_free 64 = .ok (.istore 5, 2) := by decide +kernel
theorem dL_free_66 : decode cL_free 66 = .ok (.iinc 6 1, 3) := by decide +kernel
theorem dL_free_69 : decode cL_free 69 = .ok (.goto (-63), 3) := by decide +kernel
theorem dL_free_72 : decode cL_free 72 = .ok (.iload 5, 2) := by decide +kernel
theorem dL_free_74 : decode cL_free 74 = .ok (.ireturn, 1) := by decide +kernel
set_option maxRecDepth 20000 in
theorem ggL_queueing_L_has : GoodIn wsL_queueing wsL_has := goodIn_r _ [5] (by decide +kernel) (by decide +kernel)
set_option maxRecDepth 20000 in
theorem gL_queueing_L_has : GoodIn wsL_queueing (va_wsS RL 48 yL_has wsL_has) := goodIn_app (goodIn_of _ (by decide +kernel)) ggL_queueing_L_has
set_option maxRecDepth 20000 in
theorem ggL_queueing_X5_state : GoodIn wsL_queueing wsX5_state := goodIn_ca (goodIn_r _ [10, 11, 12, 13, 9, 14, 15, 16, 17, 18, 19, 20, 21, 22, 23, 24, 25, 26, 27, 28, 29, 30, 31, 32, 33, 34, 35, 36, 37, 38, 39, 40, 41, 42, 43, 44, 45, 46, 47, 48, 287, 288, 289, 290, 291, 292, 293, 294, 295, 296, 297, 298, 299, 300, 301, 302, 303, 304, 305] (by decide +kernel) (by decide +kernel)) (goodIn_sub (fun _ h => List.mem_cons_of_mem _ (List.mem_append_left _ (List.mem_append_left _ (List.mem_append_right _ h)))) (by decide +kernel))
set_option maxRecDepth 20000 in
theorem gL_queueing_X5_state : GoodIn wsL_queueing (wsV RL 92 RX5 yX5_state wsX5_state) := goodIn_app (goodIn_of _ (by decide +kernel)) ggL_queueing_X5_state
set_option maxRecDepth 20000 in
theorem ggL_queueing_L_asks : GoodIn wsL_queueing wsL_asks := goodIn_ca (goodIn_ca (goodIn_ca (goodIn_r _ [51, 52, 53, 54, 55, 56, 9, 57, 58, 59, 60, 61, 17, 62, 63, 64, 65, 66, 18, 67, 68, 69, 70, 71, 72, 73, 19, 20, 21, 22, 23, 24, 74, 75, 76, 77, 78, 25, 26, 27, 28, 29, 30, 31, 32, 33, 34, 35, 36, 37, 38, 39, 40, 41, 79, 80, 81, 42, 43, 44, 45, 46, 47, 48, 82, 83, 84, 85, 86, 87, 88, 89, 90, 91, 92, 93, 94, 95, 96, 97, 98, 99, 100, 101, 102, 103, 104, 105, 106, 107, 108, 109, 110, 111, 112, 113, 114, 115, 116, 117, 118, 119, 120, 121, 122, 123, 124, 125, 126, 127, 128, 129, 130, 131, 132, 133, 134, 135, 136, 137, 138, 139, 140, 141, 142, 143, 144, 145, 146, 147, 148, 149, 150, 151, 152, 153, 154, 155, 156, 157, 158, 159, 160, 161, 162, 163, 164, 165, 166, 167, 168, 169, 170, 171, 172, 173, 174, 175, 176, 177, 178, 179, 180, 181, 182, 183, 184, 185, 15, 16, 186, 187, 188, 189, 190, 191, 192, 193, 194, 195, 196, 197, 198, 199, 200, 201, 11, 12, 13, 14, 202, 203, 204, 205, 206, 207, 208, 209, 210, 211, 212, 213, 214, 215, 216, 217, 218, 219, 220, 221, 222, 223, 224, 225, 226, 227, 228, 229, 230, 231, 232, 233, 234, 235, 236, 237, 238, 4, 239, 240, 241, 242, 243, 244, 245, 246, 247, 248, 249, 250, 251, 252, 253, 254, 255, 256, 257, 258, 259, 260, 261, 262, 263, 264, 265, 266, 267, 268, 269, 270, 271, 272, 273, 274, 275, 276, 277, 278, 279, 280, 281, 282, 283, 284, 285, 286, 287, 288, 289, 290, 291, 301, 302, 303, 304, 305, 292, 293, 294, 295, 296, 297, 298, 299, 300, 306, 307, 308, 309, 310, 311, 312] (by decide +kernel) (by decide +kernel)) (goodIn_sub (fun _ h => List.mem_cons_of_mem _ (List.mem_append_left _ (List.mem_append_right _ h))) (by decide +kernel))) (goodIn_sub (fun _ h => List.mem_cons_of_mem _ (List.mem_append_right _ h)) (by decide +kernel))) (goodIn_sub (fun _ h => List.mem_cons_of_mem _ (List.mem_append_left _ (List.mem_append_left _ (List.mem_append_right _ h)))) (by decide +kernel))
set_option maxRecDepth 20000 in
theorem gL_queueing_L_asks : GoodIn wsL_queueing (va_wsS RL 81 yL_asks wsL_asks) := goodIn_app (goodIn_of _ (by decide +kernel)) ggL_queueing_L_asks
theorem dL_queueing_0 : decode cL_queueing 0 = .ok (.aload 4, 2) := by decide +kernel
theorem dL_queueing_2 : decode cL_queueing 2 = .ok (.iconst 2, 1) := by decide +kernel
theorem dL_queueing_3 : decode cL_queueing 3 = .ok (.iaload, 1) := by decide +kernel
theorem dL_queueing_4 : decode cL_queueing 4 = .ok (.bipush 60, 2) := by decide +kernel
theorem dL_queueing_6 : decode cL_queueing 6 = .ok (.if_icmp .ge 7, 3) := by decide +kernel
theorem dL_queueing_9 : decode cL_queueing 9 = .ok (.iconst 1, 1) := by decide +kernel
theorem dL_queueing_10 : decode cL_queueing 10 = .ok (.goto 4, 3) := by decide +kernel
theorem dL_queueing_13 : decode cL_queueing 13 = .ok (.iconst 0, 1) := by decide +kernel
theorem dL_queueing_14 : decode cL_queueing 14 = .ok (.istore 5, 2) := by decide +kernel
theorem dL_queueing_16 : decode cL_queueing 16 = .ok (.iconst 0, 1) := by decide +kernel
theorem dL_queueing_17 : decode cL_queueing 17 = .ok (.istore 6, 2) := by decide +kernel
theorem dL_queueing_19 : decode cL_queueing 19 = .ok (.iload 6, 2) := by decide +kernel
theorem dL_queueing_21 : decode cL_queueing 21 = .ok (.aload 4, 2) := by decide +kernel
theorem dL_queueing_23 : decode cL_queueing 23 = .ok (.iconst 1, 1) := by decide +kernel
theorem dL_queueing_24 : decode cL_queueing 24 = .ok (.iaload, 1) := by decide +kernel
theorem dL_queueing_25 : decode cL_queueing 25 = .ok (.if_icmp .ge 50, 3) := by decide +kernel
theorem dL_queueing_28 : decode cL_queueing 28 = .ok (.iload 5, 2) := by decide +kernel
theorem dL_queueing_30 : decode cL_queueing 30 = .ok (.ifCond .eq 36, 3) := by decide +kernel
theorem dL_queueing_33 : decode cL_queueing 33 = .ok (.iload_n 1, 1) := by decide +kernel
theorem dL_queueing_34 : decode cL_queueing 34 = .ok (.iload 6, 2) := by decide +kernel
theorem dL_queueing_36 : decode cL_queueing 36 = .ok (.invokestatic 48, 3) := by decide +kernel
theorem dL_queueing_39 : decode cL_queueing 39 = .ok (.ifCond .eq 23, 3) := by decide +kernel
theorem dL_queueing_42 : decode cL_queueing 42 = .ok (.aload_n 0, 1) := by decide +kernel
theorem dL_queueing_43 : decode cL_queueing 43 = .ok (.iload 6, 2) := by decide +kernel
theorem dL_queueing_45 : decode cL_queueing 45 = .ok (.invokevirtual 92, 3) := by decide +kernel
theorem dL_queueing_48 : decode cL_queueing 48 = .ok (.ifCond .ne 18, 3) := by decide +kernel
theorem dL_queueing_51 : decode cL_queueing 51 = .ok (.aload_n 3, 1) := by decide +kernel
theorem dL_queueing_52 : decode cL_queueing 52 = .ok (.iload 6, 2) := by decide +kernel
theorem dL_queueing_54 : decode cL_queueing 54 = .ok (.iaload, 1) := by decide +kernel
theorem dL_queueing_55 : decode cL_queueing 55 = .ok (.aload 4, 2) := by decide +kernel
theorem dL_queueing_57 : decode cL_queueing 57 = .ok (.iconst 0, 1) := by decide +kernel
theorem dL_queueing_58 : decode cL_queueing 58 = .ok (.iaload, 1) := by decide +kernel
theorem dL_queueing_59 : decode cL_queueing 59 = .ok (.if_icmp .gt 7, 3) := by decide +kernel
theorem dL_queueing_62 : decode cL_queueing 62 = .ok (.iconst 1, 1) := by decide +kernel
theorem dL_queueing_63 : decode cL_queueing 63 = .ok (.goto 4, 3) := by decide +kernel
theorem dL_queueing_66 : decode cL_queueing 66 = .ok (.iconst 0, 1) := by decide +kernel
theorem dL_queueing_67 : decode cL_queueing 67 = .ok (.istore 5, 2) := by decide +kernel
theorem dL_queueing_69 : decode cL_queueing 69 = .ok (.iinc 6 1, 3) := by decide +kernel
theorem dL_queueing_72 : decode cL_queueing 72 = .ok (.goto (-53), 3) := by decide +kernel
theorem dL_queueing_75 : decode cL_queueing 75 = .ok (.aload 4, 2) := by decide +kernel
theorem dL_queueing_77 : decode cL_queueing 77 = .ok (.iconst 2, 1) := by decide +kernel
theorem dL_queueing_78 : decode cL_queueing 78 = .ok (.iaload, 1) := by decide +kernel
theorem dL_queueing_79 : decode cL_queueing 79 = .ok (.bipush 60, 2) := by decide +kernel
theorem dL_queueing_81 : decode cL_queueing 81 = .ok (.if_icmp .ne 5, 3) := by decide +kernel
theorem dL_queueing_84 : decode cL_queueing 84 = .ok (.iconst 1, 1) := by decide +kernel
theorem dL_queueing_85 : decode cL_queueing 85 = .ok (.ireturn, 1) := by decide +kernel
theorem dL_queueing_86 : decode cL_queueing 86 = .ok (.aload_n 0, 1) := by decide +kernel
theorem dL_queueing_87 : decode cL_queueing 87 = .ok (.iconst 0, 1) := by decide +kernel
theorem dL_queueing_88 : decode cL_queueing 88 = .ok (.iload_n 1, 1) := by decide +kernel
theorem dL_queueing_89 : decode cL_queueing 89 = .ok (.iconst 0, 1) := by decide +kernel
theorem dL_queueing_90 : decode cL_queueing 90 = .ok (.invokestatic 81, 3) := by decide +kernel
theorem dL_queueing_93 : decode cL_queueing 93 = .ok (.istore 6, 2) := by decide +kernel
theorem dL_queueing_95 : decode cL_queueing 95 = .ok (.iload 5, 2) := by decide +kernel
theorem dL_queueing_97 : decode cL_queueing 97 = .ok (.ifCond .eq 32, 3) := by decide +kernel
theorem dL_queueing_100 : decode cL_queueing 100 = .ok (.aload_n 2, 1) := by decide +kernel
theorem dL_queueing_101 : decode cL_queueing 101 = .ok (.aload 4, 2) := by decide +kernel
theorem dL_queueing_103 : decode cL_queueing 103 = .ok (.iconst 2, 1) := by decide +kernel
theorem dL_queueing_104 : decode cL_queueing 104 = .ok (.iaload, 1) := by decide +kernel
theorem dL_queueing_105 : decode cL_queueing 105 = .ok (.iload_n 1, 1) := by decide +kernel
theorem dL_queueing_106 : decode cL_queueing 106 = .ok (.i2l, 1) := by decide +kernel
theorem dL_queueing_107 : decode cL_queueing 107 = .ok (.aload 4, 2) := by decide +kernel
theorem dL_queueing_109 : decode cL_queueing 109 = .ok (.iconst 0, 1) := by decide +kernel
theorem dL_queueing_110 : decode cL_queueing 110 = .ok (.iaload, 1) := by decide +kernel
theorem dL_queueing_111 : decode cL_queueing 111 = .ok (.i2l, 1) := by decide +kernel
theorem dL_queueing_112 : decode cL_queueing 112 = .ok (.bipush 18, 2) := by decide +kernel
theorem dL_queueing_114 : decode cL_queueing 114 = .ok (.lshl, 1) := by decide +kernel
theorem dL_queueing_115 : decode cL_queueing 115 = .ok (.lor, 1) := by decide +kernel
theorem dL_queueing_116 : decode cL_queueing 116 = .ok (.ldc2_w 132, 3) := by decide +kernel
theorem dL_queueing_119 : decode cL_queueing 119 = .ok (.lor, 1) := by decide +kernel
theorem dL_queueing_120 : decode cL_queueing 120 = .ok (.lastore, 1) := by decide +kernel
theorem dL_queueing_121 : decode cL_queueing 121 = .ok (.aload 4, 2) := by decide +kernel
theorem dL_queueing_123 : decode cL_queueing 123 = .ok (.iconst 2, 1) := by decide +kernel
theorem dL_queueing_124 : decode cL_queueing 124 = .ok (.dup2, 1) := by decide +kernel
theorem dL_queueing_125 : decode cL_queueing 125 = .ok (.iaload, 1) := by decide +kernel
theorem dL_queueing_126 : decode cL_queueing 126 = .ok (.iconst 1, 1) := by decide +kernel
theorem dL_queueing_127 : decode cL_queueing 127 = .ok (.iadd, 1) := by decide +kernel
theorem dL_queueing_128 : decode cL_queueing 128 = .ok (.iastore, 1) := by decide +kernel
theorem dL_queueing_129 : decode cL_queueing 129 = .ok (.iload 6, 2) := by decide +kernel
theorem dL_queueing_131 : decode cL_queueing 131 = .ok (.iload 5, 2) := by decide +kernel
theorem dL_queueing_133 : decode cL_queueing 133 = .ok (.ifCond .eq 12, 3) := by decide +kernel
theorem dL_queueing_136 : decode cL_queueing 136 = .ok (.aload 4, 2) := by decide +kernel
theorem dL_queueing_138 : decode cL_queueing 138 = .ok (.iconst 2, 1) := by decide +kernel
theorem dL_queueing_139 : decode cL_queueing 139 = .ok (.iaload, 1) := by decide +kernel
theorem dL_queueing_140 : decode cL_queueing 140 = .ok (.iconst 1, 1) := by decide +kernel
theorem dL_queueing_141 : decode cL_queueing 141 = .ok (.isub, 1) := by decide +kernel
theorem dL_queueing_142 : decode cL_queueing 142 = .ok (.goto 5, 3) := by decide +kernel
theorem dL_queueing_145 : decode cL_queueing 145 = .ok (.bipush (-8), 2) := by decide +kernel
theorem dL_queueing_147 : decode cL_queueing 147 = .ok (.if_icmp .ne 7, 3) := by decide +kernel
theorem dL_queueing_150 : decode cL_queueing 150 = .ok (.iconst 1, 1) := by decide +kernel
theorem dL_queueing_151 : decode cL_queueing 151 = .ok (.goto 4, 3) := by decide +kernel
theorem dL_queueing_154 : decode cL_queueing 154 = .ok (.iconst 0, 1) := by decide +kernel
theorem dL_queueing_155 : decode cL_queueing 155 = .ok (.ireturn, 1) := by decide +kernel
