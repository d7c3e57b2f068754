set_option maxRecDepth 20000 in
theorem ggL_step_X5_addPlayer : GoodIn wsL_step wsX5_addPlayer := goodIn_ca (goodIn_ca (goodIn_r _ [6, 7, 8, 9, 10, 11, 12, 13, 14, 15, 16, 17, 18, 19, 20, 21, 22, 23, 24, 25, 26, 27, 28, 29, 30, 31, 32, 33, 34, 35, 36, 37, 38, 39, 40, 41, 42, 43, 44, 45, 46, 47, 48, 49, 50, 51, 52, 53, 54, 55, 56, 57, 58, 59, 60, 61, 62, 63, 64, 65, 66, 67, 68, 69, 70, 71, 72, 73, 74, 75, 76, 77, 78, 79, 80, 81, 82, 83, 504, 505, 506, 507, 508, 509, 510, 511, 512, 513, 514, 515, 516, 517] (by decide +kernel) (by decide +kernel)) (goodIn_sub (fun _ h => List.mem_cons_of_mem _ (List.mem_append_left _ (List.mem_append_left _ (List.mem_append_right _ h)))) (by decide +kernel))) (goodIn_sub (fun _ h => List.mem_cons_of_mem _ (List.mem_append_left _ (List.mem_append_right _ h))) (by decide +kernel))
set_option maxRecDepth 20000 in
theorem gL_step_X5_addPlayer : GoodIn wsL_step (wsV RL 148 RX5 yX5_addPlayer wsX5_addPlayer) := goodIn_app (goodIn_of _ (by decide +kernel)) ggL_step_X5_addPlayer
set_option maxRecDepth 20000 in
theorem ggL_step_X5_rating : GoodIn wsL_step wsX5_rating := goodIn_ca (goodIn_r _ [87, 88, 89, 90, 91, 5, 92, 93, 94, 11, 95, 15, 16, 17, 18, 19, 20, 96, 97, 98, 99, 100, 101, 102, 103, 104, 105, 106, 107, 108, 109, 110, 111, 36, 509, 510, 511, 512, 513, 514, 504, 505, 506, 507, 508, 515, 516, 517] (by decide +kernel) (by decide +kernel)) (goodIn_sub (fun _ h => List.mem_cons_of_mem _ (List.mem_append_right _ h)) (by decide +kernel))
set_option maxRecDepth 20000 in
theorem gL_step_X5_rating : GoodIn wsL_step (wsV RL 51 RX5 yX5_rating wsX5_rating) := goodIn_app (goodIn_of _ (by decide +kernel)) ggL_step_X5_rating
set_option maxRecDepth 20000 in
theorem ggL_step_X5_uncertainty : GoodIn wsL_step wsX5_uncertainty := goodIn_ca (goodIn_r _ [115, 116, 89, 90, 91, 5, 92, 93, 94, 11, 95, 15, 16, 17, 18, 19, 20, 96, 97, 98, 99, 100, 101, 102, 103, 104, 105, 106, 107, 108, 109, 110, 111, 36, 509, 510, 511, 512, 513, 514, 504, 505, 506, 507, 508, 515, 516, 517] (by decide +kernel) (by decide +kernel)) (goodIn_sub (fun _ h => List.mem_cons_of_mem _ (List.mem_append_right _ h)) (by decide +kernel))
set_option maxRecDepth 20000 in
theorem gL_step_X5_uncertainty : GoodIn wsL_step (wsV RL 95 RX5 yX5_uncertainty wsX5_uncertainty) := goodIn_app (goodIn_of _ (by decide +kernel)) ggL_step_X5_uncertainty
set_option maxRecDepth 20000 in
theorem ggL_step_L_free : GoodIn wsL_step wsL_free := goodIn_ca (goodIn_r _ [120, 121, 122, 119, 123, 124, 125, 126, 5, 127, 89, 90, 91, 92, 93, 94, 11, 95, 15, 16, 17, 18, 19, 20, 96, 97, 98, 99, 100, 101, 102, 103, 104, 105, 106, 107, 108, 109, 110, 111, 36, 128, 129, 130, 14, 131, 132, 133, 504, 505, 506, 507, 508, 515, 516, 517, 509, 510, 511, 512, 513, 514, 518, 519, 520, 521, 522] (by decide +kernel) (by decide +kernel)) (goodIn_sub (fun _ h => List.mem_cons_of_mem _ (List.mem_append_right _ h)) (by decide +kernel))
set_option maxRecDepth 20000 in
theorem gL_step_L_free : GoodIn wsL_step (va_wsS RL 151 yL_free wsL_free) := goodIn_app (goodIn_of _ (by decide +kernel)) ggL_step_L_free
set_option maxRecDepth 20000 in
theorem ggL_step_L_queueing : GoodIn wsL_step wsL_queueing := goodIn_ca (goodIn_ca (goodIn_ca (goodIn_c (List.mem_of_getElem? (i := 136) (by rfl)) (by decide +kernel) (goodIn_app (goodIn_app (goodIn_app (goodIn_app (goodIn_app (goodIn_app (goodIn_r wsL_queueing_r1 [137, 138, 139, 119, 140, 124, 125, 126, 5, 127, 89, 90, 91, 92, 93, 94, 11, 95, 15, 16, 17, 18, 19, 20] (by decide +kernel) (by decide +kernel)) (goodIn_app (goodIn_r wsL_queueing_r2 [96, 97, 98, 99, 100, 101, 102, 103, 104, 105, 106, 107, 108, 109, 110, 111, 36, 128, 129, 130, 14, 131, 132, 133] (by decide +kernel) (by decide +kernel)) (goodIn_app (goodIn_r wsL_queueing_r3 [141, 142, 143, 144, 145, 146, 147, 148, 149, 7, 8, 9, 10, 150, 151, 152, 153, 154, 155, 156, 157, 158, 159, 160] (by decide +kernel) (by decide +kernel)) (goodIn_app (goodIn_r wsL_queueing_r4 [161, 162, 163, 164, 165, 166, 167, 168, 169, 170, 171, 172, 173, 25, 26, 174, 175, 176, 177, 178, 179, 180, 181, 182] (by decide +kernel) (by decide +kernel)) (goodIn_app (goodIn_r wsL_queueing_r5 [49, 183, 184, 185, 186, 187, 188, 189, 190, 191, 192, 193, 194, 195, 196, 197, 198, 199, 200, 31, 32, 33, 34, 35] (by decide +kernel) (by decide +kernel)) (goodIn_app (goodIn_r wsL_queueing_r6 [37, 38, 39, 40, 41, 42, 43, 44, 45, 46, 47, 48, 50, 51, 52, 53, 54, 55, 56, 57, 58, 59, 60, 61] (by decide +kernel) (by decide +kernel)) (goodIn_app (goodIn_r wsL_queueing_r7 [62, 63, 64, 65, 66, 67, 68, 69, 70, 71, 72, 73, 74, 75, 76, 77, 78, 79, 80, 81, 82, 83, 201, 202] (by decide +kernel) (by decide +kernel)) (goodIn_app (goodIn_r wsL_queueing_r8 [203, 204, 30, 205, 206, 207, 208, 209, 210, 211, 212, 213, 214, 215, 216, 217, 218, 219, 220, 221, 222, 223, 224, 225] (by decide +kernel) (by decide +kernel)) (goodIn_app (goodIn_r wsL_queueing_r9 [226, 227, 228, 229, 230, 231, 232, 233, 234, 235, 236, 237, 238, 239, 240, 241, 242, 243, 244, 245, 246, 247, 248, 249] (by decide +kernel) (by decide +kernel)) (goodIn_app (goodIn_r wsL_queueing_r10 [250, 251, 252, 253, 254, 255, 256, 257, 258, 259, 260, 261, 262, 263, 264, 265, 266, 267, 268, 269, 270, 271, 272, 273] (by decide +kernel) (by decide +kernel)) (goodIn_app (goodIn_r wsL_queueing_r11 [274, 275, 276, 277, 278, 279, 280, 281, 282, 283, 284, 285, 286, 287, 288, 289, 290, 291, 88, 292, 293, 294, 295, 296] (by decide +kernel) (by decide +kernel)) (goodIn_r wsL_queueing_r12 [297, 298, 299, 27, 29, 300, 301, 302, 303, 304, 305, 306, 307, 308, 309, 310, 311, 312, 313, 314, 315, 316] (by decide +kernel) (by decide +kernel))))))))))))) (goodIn_r wsX50 [504, 505, 506, 507, 508] (by decide +kernel) (by decide +kernel))) (goodIn_r wsJx4a65c0 [515, 516, 517] (by decide +kernel) (by decide +kernel))) (goodIn_r wsX30 [509, 510, 511, 512, 513, 514] (by decide +kernel) (by decide +kernel))) (goodIn_r wsX20 [518, 519, 520, 521, 522] (by decide +kernel) (by decide +kernel))) (goodIn_r wsX10 [523, 524, 525, 526, 527, 528, 529] (by decide +kernel) (by decide +kernel)))) (goodIn_sub (fun _ h => List.mem_cons_of_mem _ (List.mem_append_right _ h)) (by decide +kernel))) (goodIn_sub (fun _ h => List.mem_cons_of_mem _ (List.mem_append_left _ (List.mem_append_left _ (List.mem_append_right _ h)))) (by decide +kernel))) (goodIn_sub (fun _ h => List.mem_cons_of_mem _ (List.mem_append_left _ (List.mem_append_right _ h))) (by decide +kernel))
set_option maxRecDepth 20000 in
theorem gL_step_L_queueing : GoodIn wsL_step (va_wsS RL 154 yL_queueing wsL_queueing) := goodIn_app (goodIn_of _ (by decide +kernel)) ggL_step_L_queueing
set_option maxRecDepth 20000 in
theorem ggL_step_L_queues : GoodIn wsL_step wsL_queues := goodIn_r _ [319] (by decide +kernel) (by decide +kernel)
set_option maxRecDepth 20000 in
theorem gL_step_L_queues : GoodIn wsL_step (va_wsS RL 77 yL_queues wsL_queues) := goodIn_app (goodIn_of _ (by decide +kernel)) ggL_step_L_queues
set_option maxRecDepth 20000 in
theorem ggL_step_L_asks : GoodIn wsL_step wsL_asks := goodIn_ca (goodIn_ca (goodIn_ca (goodIn_r _ [143, 144, 145, 146, 147, 148, 5, 149, 7, 8, 9, 10, 11, 150, 151, 152, 153, 154, 95, 155, 156, 157, 158, 159, 160, 161, 15, 16, 17, 18, 19, 20, 162, 163, 164, 165, 166, 96, 97, 98, 99, 100, 101, 102, 103, 104, 105, 106, 107, 108, 109, 110, 111, 36, 167, 168, 169, 128, 129, 130, 14, 131, 132, 133, 170, 171, 172, 173, 25, 26, 174, 175, 176, 177, 178, 179, 180, 181, 182, 49, 183, 184, 185, 186, 187, 188, 189, 190, 191, 192, 193, 194, 195, 196, 197, 198, 199, 200, 31, 32, 33, 34, 35, 37, 38, 39, 40, 41, 42, 43, 44, 45, 46, 47, 48, 50, 51, 52, 53, 54, 55, 56, 57, 58, 59, 60, 61, 62, 63, 64, 65, 66, 67, 68, 69, 70, 71, 72, 73, 74, 75, 76, 77, 78, 79, 80, 81, 82, 83, 201, 202, 203, 204, 30, 205, 206, 207, 208, 209, 210, 211, 212, 213, 214, 215, 216, 217, 218, 93, 94, 219, 220, 221, 222, 223, 224, 225, 226, 227, 228, 229, 230, 231, 232, 233, 234, 89, 90, 91, 92, 235, 236, 237, 238, 239, 240, 241, 242, 243, 244, 245, 246, 247, 248, 249, 250, 251, 252, 253, 254, 255, 256, 257, 258, 259, 260, 261, 262, 263, 264, 265, 266, 267, 268, 269, 270, 271, 119, 272, 273, 274, 275, 276, 277, 278, 279, 280, 281, 282, 283, 284, 285, 286, 287, 288, 289, 290, 291, 88, 292, 293, 294, 295, 296, 297, 298, 299, 27, 29, 300, 301, 302, 303, 304, 305, 306, 307, 308, 309, 310, 311, 312, 313, 314, 315, 316, 504, 505, 506, 507, 508, 518, 519, 520, 521, 522, 515, 516, 517, 509, 510, 511, 512, 513, 514, 523, 524, 525, 526, 527, 528, 529] (by decide +kernel) (by decide +kernel)) (goodIn_sub (fun _ h => List.mem_cons_of_mem _ (List.mem_append_left _ (List.mem_append_left _ (List.mem_append_right _ h)))) (by decide +kernel))) (goodIn_sub (fun _ h => List.mem_cons_of_mem _ (List.mem_append_left _ (List.mem_append_right _ h))) (by decide +kernel))) (goodIn_sub (fun _ h => List.mem_cons_of_mem _ (List.mem_append_right _ h)) (by decide +kernel))
set_option maxRecDepth 20000 in
theorem gL_step_L_asks : GoodIn wsL_step (va_wsS RL 81 yL_asks wsL_asks) := goodIn_app (goodIn_of _ (by decide +kernel)) ggL_step_L_asks
set_option maxRecDepth 20000 in
theorem ggL_step_L_since : GoodIn wsL_step wsL_since := goodIn_r _ [322, 323] (by decide +kernel) (by decide +kernel)
set_option maxRecDepth 20000 in
theorem gL_step_L_since : GoodIn wsL_step (va_wsS RL 65 yL_since wsL_since) := goodIn_app (goodIn_of _ (by decide +kernel)) ggL_step_L_since
set_option maxRecDepth 20000 in
theorem ggL_step_L_makes : GoodIn wsL_step wsL_makes := goodIn_ca (goodIn_ca (goodIn_c (List.mem_of_getElem? (i := 326) (by rfl)) (by decide +kernel) (goodIn_app (goodIn_app (goodIn_app (goodIn_app (goodIn_app (goodIn_app (goodIn_app (goodIn_r wsL_makes_r1 [1, 317, 318, 119, 319, 327, 328, 329, 330, 121, 122, 123, 331, 332, 333, 5, 334, 150, 219, 209, 335, 233, 154, 15] (by decide +kernel) (by decide +kernel)) (goodIn_app (goodIn_r wsL_makes_r2 [16, 17, 18, 19, 20, 96, 97, 98, 99, 100, 101, 102, 103, 104, 105, 106, 107, 108, 109, 110, 111, 36, 336, 337] (by decide +kernel) (by decide +kernel)) (goodIn_app (goodIn_r wsL_makes_r3 [338, 339, 340, 286, 51, 52, 53, 341, 342, 343, 344, 34, 35, 345, 346, 347, 153, 348, 349, 350, 351, 352, 353, 354] (by decide +kernel) (by decide +kernel)) (goodIn_app (goodIn_r wsL_makes_r4 [355, 178, 356, 357, 358, 359, 360, 361, 362, 363, 364, 314, 315, 316, 175, 30, 31, 32, 33, 37, 38, 39, 40, 41] (by decide +kernel) (by decide +kernel)) (goodIn_app (goodIn_r wsL_makes_r5 [42, 43, 44, 45, 46, 47, 48, 49, 50, 54, 55, 56, 57, 58, 59, 60, 61, 62, 63, 64, 65, 66, 67, 68] (by decide +kernel) (by decide +kernel)) (goodIn_app (goodIn_r wsL_makes_r6 [69, 70, 71, 72, 73, 74, 75, 76, 77, 78, 79, 80, 81, 82, 83, 365, 366, 367, 368, 369, 370, 371, 372, 373] (by decide +kernel) (by decide +kernel)) (goodIn_app (goodIn_r wsL_makes_r7 [374, 375, 376, 377, 378, 379, 380, 381, 382, 203, 383, 384, 156, 157, 158, 159, 160, 161, 385, 386, 387, 388, 389, 390] (by decide +kernel) (by decide +kernel)) (goodIn_app (goodIn_r wsL_makes_r8 [391, 392, 393, 394, 395, 396, 397, 398, 399, 400, 401, 402, 403, 404, 405, 406, 407, 408, 409, 410, 411, 412, 413, 414] (by decide +kernel) (by decide +kernel)) (goodIn_app (goodIn_r wsL_makes_r9 [415, 416, 417, 418, 419, 420, 421, 422, 423, 424, 425, 238, 426, 427, 428, 429, 25, 26, 430, 431, 432, 433, 434, 177] (by decide +kernel) (by decide +kernel)) (goodIn_app (goodIn_r wsL_makes_r10 [258, 240, 241, 435, 181, 182, 183, 184, 185, 186, 187, 188, 189, 190, 191, 192, 436, 437, 438, 439, 260, 440, 441, 442] (by decide +kernel) (by decide +kernel)) (goodIn_app (show GoodIn wsL_step (([Cond.selects RX5 yX5_matches yX5_matches, Cond.code yX5_matches cX5_matches 1 (some .int), Cond.methodLink RL 123 yL_isMatch, Cond.static yL_isMatch] ++ ([Cond.code yL_isMatch cL_isMatch 19 (some .boolean)] ++ [Cond.methodLink RL 88 yX5_team, Cond.instanceMethod yX5_team, Cond.selects RX5 yX5_team yX5_team, Cond.code yX5_team cX5_team 4 (some .int), Cond.fieldLink RX5 170 "LobbyMaker$Match" "teamZero" "I", Cond.fieldLink RX5 173 "LobbyMaker$Match" "teamOne" "I", Cond.methodLink RX5 162 yX5_existingMatch, Cond.instanceMethod yX5_existingMatch, Cond.selects RX5 yX5_existingMatch yX5_existingMatch, Cond.code yX5_existingMatch cX5_existingMatch 2 (some (.object "LobbyMaker$Match")), Cond.classLink RX5 200 "java/lang/IndexOutOfBoundsException", Cond.initialized "java/lang/IndexOutOfBoundsException", Cond.classLink RX5 148 "LobbyMaker$Match", Cond.methodLink RX5 165 yX5_checkTeam, Cond.static yX5_checkTeam, Cond.code yX5_checkTeam cX5_checkTeam 1 none, Cond.classLink RX5 33 "java/lang/IllegalArgumentException", Cond.initialized "java/lang/IllegalArgumentException", Cond.methodLink RL 113 yL_isTeam])) : List Cond) from (goodIn_app (goodIn_r _ [443, 444, 445, 446] (by decide +kernel) (by decide +kernel)) (goodIn_app (goodIn_1 (List.mem_of_getElem? (i := 447) (by rfl)) (by decide +kernel)) (goodIn_r _ [448, 449, 450, 451, 277, 278, 229, 230, 231, 232, 93, 94, 234, 279, 280, 281, 7, 8, 452] (by decide +kernel) (by decide +kernel))))) (goodIn_app (show GoodIn wsL_step (([Cond.static yL_isTeam] ++ ([Cond.code yL_isTeam cL_isTeam 9 (some .boolean)] ++ [Cond.arrayClass .int, Cond.methodLink RL 48 yL_has, Cond.static yL_has, Cond.code yL_has cL_has 2 (some .boolean), Cond.methodLink RL 58 yL_sum, Cond.static yL_sum, Cond.code yL_sum cL_sum 4 (some .int), Cond.methodLink RL 51 yX5_rating, Cond.instanceMethod yX5_rating, Cond.selects RX5 yX5_rating yX5_rating, Cond.code yX5_rating cX5_rating 2 (some .int), Cond.fieldLink RX5 103 "LobbyMaker$Player" "points" "I", Cond.methodLink RX5 97 yX5_existingPlayer, Cond.instanceMethod yX5_existingPlayer, Cond.selects RX5 yX5_existingPlayer yX5_existingPlayer, Cond.code yX5_existingPlayer cX5_existingPlayer 2 (some (.object "LobbyMaker$Player")), Cond.fieldLink RX5 10 "LobbyMaker" "playerList" "Ljava/util/ArrayList;", Cond.classLink RX5 49 "LobbyMaker$Player", Cond.methodLink RL 117 yX5_unevenness, Cond.instanceMethod yX5_unevenness, Cond.selects RX5 yX5_unevenness yX5_unevenness, Cond.code yX5_unevenness cX5_unevenness 2 (some .int)])) : List Cond) from (goodIn_app (goodIn_r _ [453] (by decide +kernel) (by decide +kernel)) (goodIn_app (goodIn_1 (List.mem_of_getElem? (i := 454) (by rfl)) (by decide +kernel)) (goodIn_r _ [455, 138, 139, 140, 456, 457, 458, 84, 85, 86, 87, 88, 89, 90, 91, 92, 11, 95, 459, 460, 461, 462] (by decide +kernel) (by decide +kernel))))) (goodIn_r wsL_makes_r13 [463, 464, 465, 466, 320, 321, 322, 323] (by decide +kernel) (by decide +kernel)))))))))))))) (goodIn_r wsX50 [504, 505, 506, 507, 508] (by decide +kernel) (by decide +kernel))) (goodIn_r wsX20 [518, 519, 520, 521, 522] (by decide +kernel) (by decide +kernel))) (goodIn_r wsJx4a65c0 [515, 516, 517] (by decide +kernel) (by decide +kernel))) (goodIn_r wsX00 [530, 531, 532, 533, 534] (by decide +kernel) (by decide +kernel))) (goodIn_r wsX30 [509, 510, 511, 512, 513, 514] (by decide +kernel) (by decide +kernel))) (goodIn_r wsX10 [523, 524, 525, 526, 527, 528, 529] (by decide +kernel) (by decide +kernel)))) (goodIn_sub (fun _ h => List.mem_cons_of_mem _ (List.mem_append_right _ h)) (by decide +kernel))) (goodIn_sub (fun _ h => List.mem_cons_of_mem _ (List.mem_append_left _ (List.mem_append_left _ (List.mem_append_right _ h)))) (by decide +kernel))
set_option maxRecDepth 20000 in
theorem gL_step_L_makes : GoodIn wsL_step (va_wsS RL 158 yL_makes wsL_makes) := goodIn_app (goodIn_of _ (by decide +kernel)) ggL_step_L_makes
set_option maxRecDepth 20000 in
theorem ggL_step_L_has : GoodIn wsL_step wsL_has := goodIn_r _ [140] (by decide +kernel) (by decide +kernel)
set_option maxRecDepth 20000 in
theorem gL_step_L_has : GoodIn wsL_step (va_wsS RL 48 yL_has wsL_has) := goodIn_app (goodIn_of _ (by decide +kernel)) ggL_step_L_has
set_option maxRecDepth 20000 in
theorem ggL_step_L_answers : GoodIn wsL_step wsL_answers := goodIn_ca (goodIn_ca (goodIn_ca (goodIn_c (List.mem_of_getElem? (i := 469) (by rfl)) (by decide +kernel) (goodIn_app (goodIn_app (goodIn_app (goodIn_app (goodIn_app (goodIn_app (goodIn_r wsL_answers_r1 [470, 471, 138, 139, 119, 140, 472, 473, 474, 5, 475, 476, 89, 90, 91, 92, 93, 94, 11, 95, 15, 16, 17, 18] (by decide +kernel) (by decide +kernel)) (goodIn_app (goodIn_r wsL_answers_r2 [19, 20, 96, 97, 98, 99, 100, 101, 102, 103, 104, 105, 106, 107, 108, 109, 110, 111, 36, 141, 142, 143, 144, 145] (by decide +kernel) (by decide +kernel)) (goodIn_app (goodIn_r wsL_answers_r3 [146, 147, 148, 149, 7, 8, 9, 10, 150, 151, 152, 153, 154, 155, 156, 157, 158, 159, 160, 161, 162, 163, 164, 165] (by decide +kernel) (by decide +kernel)) (goodIn_app (goodIn_r wsL_answers_r4 [166, 167, 168, 169, 128, 129, 130, 14, 131, 132, 133, 170, 171, 172, 173, 25, 26, 174, 175, 176, 177, 178, 179, 180] (by decide +kernel) (by decide +kernel)) (goodIn_app (goodIn_r wsL_answers_r5 [181, 182, 49, 183, 184, 185, 186, 187, 188, 189, 190, 191, 192, 193, 194, 195, 196, 197, 198, 199, 200, 31, 32, 33] (by decide +kernel) (by decide +kernel)) (goodIn_app (goodIn_r wsL_answers_r6 [34, 35, 37, 38, 39, 40, 41, 42, 43, 44, 45, 46, 47, 48, 50, 51, 52, 53, 54, 55, 56, 57, 58, 59] (by decide +kernel) (by decide +kernel)) (goodIn_app (goodIn_r wsL_answers_r7 [60, 61, 62, 63, 64, 65, 66, 67, 68, 69, 70, 71, 72, 73, 74, 75, 76, 77, 78, 79, 80, 81, 82, 83] (by decide +kernel) (by decide +kernel)) (goodIn_app (goodIn_r wsL_answers_r8 [201, 202, 203, 204, 30, 205, 206, 207, 208, 209, 210, 211, 212, 213, 214, 215, 216, 217, 218, 219, 220, 221, 222, 223] (by decide +kernel) (by decide +kernel)) (goodIn_app (goodIn_r wsL_answers_r9 [224, 225, 226, 227, 228, 229, 230, 231, 232, 233, 234, 235, 236, 237, 238, 239, 240, 241, 242, 243, 244, 245, 246, 247] (by decide +kernel) (by decide +kernel)) (goodIn_app (goodIn_r wsL_answers_r10 [248, 249, 250, 251, 252, 253, 254, 255, 256, 257, 258, 259, 260, 261, 262, 263, 264, 265, 266, 267, 268, 269, 270, 271] (by decide +kernel) (by decide +kernel)) (goodIn_app (goodIn_r wsL_answers_r11 [272, 273, 274, 275, 276, 277, 278, 279, 280, 281, 282, 283, 284, 285, 286, 287, 288, 289, 290, 291, 88, 292, 293, 294] (by decide +kernel) (by decide +kernel)) (goodIn_app (goodIn_r wsL_answers_r12 [295, 296, 297, 298, 299, 27, 29, 300, 301, 302, 303, 304, 305, 306, 307, 308, 309, 310, 311, 312, 313, 314, 315, 316] (by decide +kernel) (by decide +kernel)) (goodIn_r wsL_answers_r13 [477, 478, 479, 480, 481, 137, 327, 328, 329, 330, 482, 483, 484] (by decide +kernel) (by decide +kernel)))))))))))))) (goodIn_r wsX30 [509, 510, 511, 512, 513, 514] (by decide +kernel) (by decide +kernel))) (goodIn_r wsX50 [504, 505, 506, 507, 508] (by decide +kernel) (by decide +kernel))) (goodIn_r wsJx4a65c0 [515, 516, 517] (by decide +kernel) (by decide +kernel))) (goodIn_r wsX20 [518, 519, 520, 521, 522] (by decide +kernel) (by decide +kernel))) (goodIn_r wsX10 [523, 524, 525, 526, 527, 528, 529] (by decide +kernel) (by decide +kernel)))) (goodIn_sub (fun _ h => List.mem_cons_of_mem _ (List.mem_append_right _ h)) (by decide +kernel))) (goodIn_sub (fun _ h => List.mem_cons_of_mem _ (List.mem_append_left _ (List.mem_append_left _ (List.mem_append_right _ h)))) (by decide +kernel))) (goodIn_sub (fun _ h => List.mem_cons_of_mem _ (List.mem_append_left _ (List.mem_append_right _ h))) (by decide +kernel))
set_option maxRecDepth 20000 in
theorem gL_step_L_answers : GoodIn wsL_step (va_wsS RL 162 yL_answers wsL_answers) := goodIn_app (goodIn_of _ (by decide +kernel)) ggL_step_L_answers
set_option maxRecDepth 20000 in
theorem ggL_step_L_wins : GoodIn wsL_step wsL_wins := goodIn_ca (goodIn_ca (goodIn_ca (goodIn_c (List.mem_of_getElem? (i := 487) (by rfl)) (by decide +kernel) (goodIn_app (goodIn_app (goodIn_app (goodIn_app (goodIn_app (goodIn_app (goodIn_r wsL_wins_r1 [455, 488, 470, 489, 481, 448, 449, 450, 5, 451, 277, 278, 229, 230, 231, 232, 93, 94, 233, 234, 15, 16, 17, 18] (by decide +kernel) (by decide +kernel)) (goodIn_app (goodIn_r wsL_wins_r2 [19, 20, 96, 97, 98, 99, 100, 101, 102, 103, 104, 105, 106, 107, 108, 109, 110, 111, 36, 279, 280, 281, 7, 8] (by decide +kernel) (by decide +kernel)) (goodIn_app (goodIn_r wsL_wins_r3 [456, 457, 119, 458, 138, 139, 140, 84, 85, 86, 87, 88, 89, 90, 91, 92, 11, 95, 112, 113, 114, 115, 116, 472] (by decide +kernel) (by decide +kernel)) (goodIn_app (goodIn_r wsL_wins_r4 [473, 474, 475, 476, 141, 142, 143, 144, 145, 146, 147, 148, 149, 9, 10, 150, 151, 152, 153, 154, 155, 156, 157, 158] (by decide +kernel) (by decide +kernel)) (goodIn_app (goodIn_r wsL_wins_r5 [159, 160, 161, 162, 163, 164, 165, 166, 167, 168, 169, 128, 129, 130, 14, 131, 132, 133, 170, 171, 172, 173, 25, 26] (by decide +kernel) (by decide +kernel)) (goodIn_app (goodIn_r wsL_wins_r6 [174, 175, 176, 177, 178, 179, 180, 181, 182, 49, 183, 184, 185, 186, 187, 188, 189, 190, 191, 192, 193, 194, 195, 196] (by decide +kernel) (by decide +kernel)) (goodIn_app (goodIn_r wsL_wins_r7 [197, 198, 199, 200, 31, 32, 33, 34, 35, 37, 38, 39, 40, 41, 42, 43, 44, 45, 46, 47, 48, 50, 51, 52] (by decide +kernel) (by decide +kernel)) (goodIn_app (goodIn_r wsL_wins_r8 [53, 54, 55, 56, 57, 58, 59, 60, 61, 62, 63, 64, 65, 66, 67, 68, 69, 70, 71, 72, 73, 74, 75, 76] (by decide +kernel) (by decide +kernel)) (goodIn_app (goodIn_r wsL_wins_r9 [77, 78, 79, 80, 81, 82, 83, 201, 202, 203, 204, 30, 205, 206, 207, 208, 209, 210, 211, 212, 213, 214, 215, 216] (by decide +kernel) (by decide +kernel)) (goodIn_app (goodIn_r wsL_wins_r10 [217, 218, 219, 220, 221, 222, 223, 224, 225, 226, 227, 228, 235, 236, 237, 238, 239, 240, 241, 242, 243, 244, 245, 246] (by decide +kernel) (by decide +kernel)) (goodIn_app (goodIn_r wsL_wins_r11 [247, 248, 249, 250, 251, 252, 253, 254, 255, 256, 257, 258, 259, 260, 261, 262, 263, 264, 265, 266, 267, 268, 269, 270] (by decide +kernel) (by decide +kernel)) (goodIn_app (goodIn_r wsL_wins_r12 [271, 272, 273, 274, 275, 276, 282, 283, 284, 285, 286, 287, 288, 289, 290, 291, 292, 293, 294, 295, 296, 297, 298, 299] (by decide +kernel) (by decide +kernel)) (goodIn_r wsL_wins_r13 [27, 29, 300, 301, 302, 303, 304, 305, 306, 307, 308, 309, 310, 311, 312, 313, 314, 315, 316] (by decide +kernel) (by decide +kernel)))))))))))))) (goodIn_r wsX10 [523, 524, 525, 526, 527, 528, 529] (by decide +kernel) (by decide +kernel))) (goodIn_r wsX50 [504, 505, 506, 507, 508] (by decide +kernel) (by decide +kernel))) (goodIn_r wsJx4a65c0 [515, 516, 517] (by decide +kernel) (by decide +kernel))) (goodIn_r wsX30 [509, 510, 511, 512, 513, 514] (by decide +kernel) (by decide +kernel))) (goodIn_r wsX20 [518, 519, 520, 521, 522] (by decide +kernel) (by decide +kernel)))) (goodIn_sub (fun _ h => List.mem_cons_of_mem _ (List.mem_append_right _ h)) (by decide +kernel))) (goodIn_sub (fun _ h => List.mem_cons_of_mem _ (List.mem_append_left _ (List.mem_append_left _ (List.mem_append_right _ h)))) (by decide +kernel))) (goodIn_sub (fun _ h => List.mem_cons_of_mem _ (List.mem_append_left _ (List.mem_append_right _ h))) (by decide +kernel))
set_option maxRecDepth 20000 in
theorem gL_step_L_wins : GoodIn wsL_step (va_wsS RL 166 yL_wins wsL_wins) := goodIn_app (goodIn_of _ (by decide +kernel)) ggL_step_L_wins
set_option maxRecDepth 20000 in
theorem ggL_step_L_passes : GoodIn wsL_step wsL_passes := goodIn_ca (goodIn_ca (goodIn_ca (goodIn_c (List.mem_of_getElem? (i := 492) (by rfl)) (by decide +kernel) (goodIn_app (goodIn_app (goodIn_app (goodIn_app (goodIn_app (goodIn_app (goodIn_r wsL_passes_r1 [455, 470, 472, 473, 474, 5, 475, 476, 89, 90, 91, 92, 93, 94, 11, 95, 15, 16, 17, 18, 19, 20, 96, 97] (by decide +kernel) (by decide +kernel)) (goodIn_app (goodIn_r wsL_passes_r2 [98, 99, 100, 101, 102, 103, 104, 105, 106, 107, 108, 109, 110, 111, 36, 493, 494, 495, 496, 7, 8, 9, 10, 497] (by decide +kernel) (by decide +kernel)) (goodIn_app (goodIn_r wsL_passes_r3 [154, 233, 234, 224, 498, 499, 500, 501, 502, 503, 250, 251, 252, 238, 253, 240, 254, 255, 256, 257, 258, 259, 260, 261] (by decide +kernel) (by decide +kernel)) (goodIn_app (goodIn_r wsL_passes_r4 [262, 167, 168, 169, 263, 264, 265, 14, 266, 132, 133, 267, 268, 78, 52, 79, 269, 477, 478, 119, 479, 480, 481, 137] (by decide +kernel) (by decide +kernel)) (goodIn_r wsL_passes_r5 [327, 328, 329, 330, 138, 139, 140, 482, 483, 484] (by decide +kernel) (by decide +kernel)))))) (goodIn_r wsX30 [509, 510, 511, 512, 513, 514] (by decide +kernel) (by decide +kernel))) (goodIn_r wsX50 [504, 505, 506, 507, 508] (by decide +kernel) (by decide +kernel))) (goodIn_r wsJx4a65c0 [515, 516, 517] (by decide +kernel) (by decide +kernel))) (goodIn_r wsX10 [523, 524, 525, 526, 527, 528, 529] (by decide +kernel) (by decide +kernel))) (goodIn_r wsX20 [518, 519, 520, 521, 522] (by decide +kernel) (by decide +kernel)))) (goodIn_sub (fun _ h => List.mem_cons_of_mem _ (List.mem_append_right _ h)) (by decide +kernel))) (goodIn_sub (fun _ h => List.mem_cons_of_mem _ (List.mem_append_left _ (List.mem_append_left _ (List.mem_append_right _ h)))) (by decide +kernel))) (goodIn_sub (fun _ h => List.mem_cons_of_mem _ (List.mem_append_left _ (List.mem_append_right _ h))) (by decide +kernel))
set_option maxRecDepth 20000 in
theorem gL_step_L_passes : GoodIn wsL_step (va_wsS RL 170 yL_passes wsL_passes) := goodIn_app (goodIn_of _ (by decide +kernel)) ggL_step_L_passes
theorem dL_step_0 : decode cL_step 0 = .ok (.iload_n 1, 1) := by decide +kernel
theorem dL_step_1 : decode cL_step 1 = .ok (.ifCond .ne 138, 3) := by decide +kernel
theorem dL_step_4 : decode cL_step 4 = .ok (.aload 10, 2) := by decide +kernel
theorem dL_step_6 : decode cL_step 6 = .ok (.iconst 1, 1) := by decide +kernel
theorem dL_step_7 : decode cL_step 7 = .ok (.iaload, 1) := by decide +kernel
theorem dL_step_8 : decode cL_step 8 = .ok (.bipush 18, 2) := by decide +kernel
theorem dL_step_10 : decode cL_step 10 = .ok (.if_icmp .ne 5, 3) := by decide +kernel
theorem dL_step_13 : decode cL_step 13 = .ok (.iconst 1, 1) := by decide +kernel
theorem dL_step_14 : decode cL_step 14 = .ok (.ireturn, 1) := by decide +kernel
theorem dL_step_15 : decode cL_step 15 = .ok (.aload 6, 2) := by decide +kernel
theorem dL_step_17 : decode cL_step 17 = .ok (.aload 10, 2) := by decide +kernel
theorem dL_step_19 : decode cL_step 19 = .ok (.iconst 1, 1) := by decide +kernel
theorem dL_step_20 : decode cL_step 20 = .ok (.iaload, 1) := by decide +kernel
theorem dL_step_21 : decode cL_step 21 = .ok (.iload_n 3, 1) := by decide +kernel
theorem dL_step_22 : decode cL_step 22 = .ok (.iconst 2, 1) := by decide +kernel
theorem dL_step_23 : decode cL_step 23 = .ok (.irem, 1) := by decide +kernel
theorem dL_step_24 : decode cL_step 24 = .ok (.ifCond .ne 8, 3) := by decide +kernel
theorem dL_step_27 : decode cL_step 27 = .ok (.bipush 7, 2) := by decide +kernel
theorem dL_step_29 : decode cL_step 29 = .ok (.goto 11, 3) := by decide +kernel
theorem dL_step_32 : decode cL_step 32 = .ok (.iconst 1, 1) := by decide +kernel
theorem dL_step_33 : decode cL_step 33 = .ok (.iload_n 3, 1) := by decide +kernel
theorem dL_step_34 : decode cL_step 34 = .ok (.iconst 2, 1) := by decide +kernel
theorem dL_step_35 : decode cL_step 35 = .ok (.idiv, 1) := by decide +kernel
theorem dL_step_36 : decode cL_step 36 = .ok (.bipush 7, 2) := by decide +kernel
theorem dL_step_38 : decode cL_step 38 = .ok (.irem, 1) := by decide +kernel
theorem dL_step_39 : decode cL_step 39 = .ok (.iadd, 1) := by decide +kernel
theorem dL_step_40 : decode cL_step 40 = .ok (.iastore, 1) := by decide +kernel
theorem dL_step_41 : decode cL_step 41 = .ok (.aload 10, 2) := by decide +kernel
theorem dL_step_43 : decode cL_step 43 = .ok (.iconst 1, 1) := by decide +kernel
theorem dL_step_44 : decode cL_step 44 = .ok (.dup2, 1) := by decide +kernel
theorem dL_step_45 : decode cL_step 45 = .ok (.iaload, 1) := by decide +kernel
theorem dL_step_46 : decode cL_step 46 = .ok (.iconst 1, 1) := by decide +kernel
theorem dL_step_47 : decode cL_step 47 = .ok (.iadd, 1) := by decide +kernel
theorem dL_step_48 : decode cL_step 48 = .ok (.iastore, 1) := by decide +kernel
theorem dL_step_49 : decode cL_step 49 = .ok (.iload_n 2, 1) := by decide +kernel
theorem dL_step_50 : decode cL_step 50 = .ok (.iconst 4, 1) := by decide +kernel
theorem dL_step_51 : decode cL_step 51 = .ok (.irem, 1) := by decide +kernel
theorem dL_step_52 : decode cL_step 52 = .ok (.ifCond .ne 13, 3) := by decide +kernel
theorem dL_step_55 : decode cL_step 55 = .ok (.iload_n 2, 1) := by decide +kernel
theorem dL_step_56 : decode cL_step 56 = .ok (.iconst 4, 1) := by decide +kernel
theorem dL_step_57 : decode cL_step 57 = .ok (.idiv, 1) := by decide +kernel
theorem dL_step_58 : decode cL_step 58 = .ok (.sipush 4001, 3) := by decide +kernel
theorem dL_step_61 : decode cL_step 61 = .ok (.irem, 1) := by decide +kernel
theorem dL_step_62 : decode cL_step 62 = .ok (.goto 14, 3) := by decide +kernel
theorem dL_step_65 : decode cL_step 65 = .ok (.sipush 1000, 3) := by decide +kernel
theorem dL_step_68 : decode cL_step 68 = .ok (.iload_n 2, 1) := by decide +kernel
theorem dL_step_69 : decode cL_step 69 = .ok (.iconst 4, 1) := by decide +kernel
theorem dL_step_70 : decode cL_step 70 = .ok (.idiv, 1) := by decide +kernel
theorem dL_step_71 : decode cL_step 71 = .ok (.sipush 300, 3) := by decide +kernel
theorem dL_step_74 : decode cL_step 74 = .ok (.irem, 1) := by decide +kernel
theorem dL_step_75 : decode cL_step 75 = .ok (.iadd, 1) := by decide +kernel
theorem dL_step_76 : decode cL_step 76 = .ok (.istore 11, 2) := by decide +kernel
theorem dL_step_78 : decode cL_step 78 = .ok (.aload_n 0, 1) := by decide +kernel
theorem dL_step_79 : decode cL_step 79 = .ok (.iload 11, 2) := by decide +kernel
theorem dL_step_81 : decode cL_step 81 = .ok (.aload 6, 2) := by decide +kernel
theorem dL_step_83 : decode cL_step 83 = .ok (.aload 10, 2) := by decide +kernel
theorem dL_step_85 : decode cL_step 85 = .ok (.iconst 1, 1) := by decide +kernel
theorem dL_step_86 : decode cL_step 86 = .ok (.iaload, 1) := by decide +kernel
theorem dL_step_87 : decode cL_step 87 = .ok (.iconst 1, 1) := by decide +kernel
theorem dL_step_88 : decode cL_step 88 = .ok (.isub, 1) := by decide +kernel
theorem dL_step_89 : decode cL_step 89 = .ok (.iaload, 1) := by decide +kernel
theorem dL_step_90 : decode cL_step 90 = .ok (.invokevirtual 148, 3) := by decide +kernel
theorem dL_step_93 : decode cL_step 93 = .ok (.aload 10, 2) := by decide +kernel
theorem dL_step_95 : decode cL_step 95 = .ok (.iconst 1, 1) := by decide +kernel
theorem dL_step_96 : decode cL_step 96 = .ok (.iaload, 1) := by decide +kernel
theorem dL_step_97 : decode cL_step 97 = .ok (.iconst 1, 1) := by decide +kernel
theorem dL_step_98 : decode cL_step 98 = .ok (.isub, 1) := by decide +kernel
theorem dL_step_99 : decode cL_step 99 = .ok (.if_icmp .ne 38, 3) := by decide +kernel
theorem dL_step_102 : decode cL_step 102 = .ok (.aload_n 0, 1) := by decide +kernel
theorem dL_step_103 : decode cL_step 103 = .ok (.aload 10, 2) := by decide +kernel
theorem dL_step_105 : decode cL_step 105 = .ok (.iconst 1, 1) := by decide +kernel
theorem dL_step_106 : decode cL_step 106 = .ok (.iaload, 1) := by decide +kernel
theorem dL_step_107 : decode cL_step 107 = .ok (.iconst 1, 1) := by decide +kernel
theorem dL_step_108 : decode cL_step 108 = .ok (.isub, 1) := by decide +kernel
theorem dL_step_109 : decode cL_step 109 = .ok (.invokevirtual 51, 3) := by decide +kernel
theorem dL_step_112 : decode cL_step 112 = .ok (.iload 11, 2) := by decide +kernel
theorem dL_step_114 : decode cL_step 114 = .ok (.if_icmp .ne 23, 3) := by decide +kernel
theorem dL_step_117 : decode cL_step 117 = .ok (.aload_n 0, 1) := by decide +kernel
theorem dL_step_118 : decode cL_step 118 = .ok (.aload 10, 2) := by decide +kernel
theorem dL_step_120 : decode cL_step 120 = .ok (.iconst 1, 1) := by decide +kernel
theorem dL_step_121 : decode cL_step 121 = .ok (.iaload, 1) := by decide +kernel
theorem dL_step_122 : decode cL_step 122 = .ok (.iconst 1, 1) := by decide +kernel
theorem dL_step_123 : decode cL_step 123 = .ok (.isub, 1) := by decide +kernel
theorem dL_step_124 : decode cL_step 124 = .ok (.invokevirtual 95, 3) := by decide +kernel
theorem dL_step_127 : decode cL_step 127 = .ok (.sipush 350, 3) := by decide +kernel
theorem dL_step_130 : decode cL_step 130 = .ok (.if_icmp .ne 7, 3) := by decide +kernel
theorem dL_step_133 : decode cL_step 133 = .ok (.iconst 1, 1) := by decide +kernel
theorem dL_step_134 : decode cL_step 134 = .ok (.goto 4, 3) := by decide +kernel
theorem dL_step_137 : decode cL_step 137 = .ok (.iconst 0, 1) := by decide +kernel
theorem dL_step_138 : decode cL_step 138 = .ok (.ireturn, 1) := by decide +kernel
theorem dL_step_139 : decode cL_step 139 = .ok (.iload_n 1, 1) := by decide +kernel
theorem dL_step_140 : decode cL_step 140 = .ok (.bipush 6, 2) := by decide +kernel
theorem dL_step_142 : decode cL_step 142 = .ok (.if_icmp .ge 81, 3) := by decide +kernel
theorem dL_step_145 : decode cL_step 145 = .ok (.aload_n 0, 1) := by decide +kernel
theorem dL_step_146 : decode cL_step 146 = .ok (.aload 7, 2) := by decide +kernel
theorem dL_step_148 : decode cL_step 148 = .ok (.aload 10, 2) := by decide +kernel
theorem dL_step_150 : decode cL_step 150 = .ok (.iload_n 2, 1) := by decide +kernel
theorem dL_step_151 : decode cL_step 151 = .ok (.iconst 1, 1) := by decide +kernel
theorem dL_step_152 : decode cL_step 152 = .ok (.iload_n 3, 1) := by decide +kernel
theorem dL_step_153 : decode cL_step 153 = .ok (.iconst 3, 1) := by decide +kernel
theorem dL_step_154 : decode cL_step 154 = .ok (.irem, 1) := by decide +kernel
theorem dL_step_155 : decode cL_step 155 = .ok (.iadd, 1) := by decide +kernel
theorem dL_step_156 : decode cL_step 156 = .ok (.invokestatic 151, 3) := by decide +kernel
theorem dL_step_159 : decode cL_step 159 = .ok (.istore 11, 2) := by decide +kernel
theorem dL_step_161 : decode cL_step 161 = .ok (.iload_n 3, 1) := by decide +kernel
theorem dL_step_162 : decode cL_step 162 = .ok (.iconst 3, 1) := by decide +kernel
theorem dL_step_163 : decode cL_step 163 = .ok (.idiv, 1) := by decide +kernel
theorem dL_step_164 : decode cL_step 164 = .ok (.bipush 6, 2) := by decide +kernel
theorem dL_step_166 : decode cL_step 166 = .ok (.irem, 1) := by decide +kernel
theorem dL_step_167 : decode cL_step 167 = .ok (.ifCond .ne 26, 3) := by decide +kernel
theorem dL_step_170 : decode cL_step 170 = .ok (.iconst 1, 1) := by decide +kernel
theorem dL_step_171 : decode cL_step 171 = .ok (.iload_n 2, 1) := by decide +kernel
theorem dL_step_172 : decode cL_step 172 = .ok (.aload 10, 2) := by decide +kernel
theorem dL_step_174 : decode cL_step 174 = .ok (.iconst 1, 1) := by decide +kernel
theorem dL_step_175 : decode cL_step 175 = .ok (.iaload, 1) := by decide +kernel
theorem dL_step_176 : decode cL_step 176 = .ok (.irem, 1) := by decide +kernel
theorem dL_step_177 : decode cL_step 177 = .ok (.ishl, 1) := by decide +kernel
theorem dL_step_178 : decode cL_step 178 = .ok (.iconst 1, 1) := by decide +kernel
theorem dL_step_179 : decode cL_step 179 = .ok (.iload_n 3, 1) := by decide +kernel
theorem dL_step_180 : decode cL_step 180 = .ok (.bipush 18, 2) := by decide +kernel
theorem dL_step_182 : decode cL_step 182 = .ok (.idiv, 1) := by decide +kernel
theorem dL_step_183 : decode cL_step 183 = .ok (.aload 10, 2) := by decide +kernel
theorem dL_step_185 : decode cL_step 185 = .ok (.iconst 1, 1) := by decide +kernel
theorem dL_step_186 : decode cL_step 186 = .ok (.iaload, 1) := by decide +kernel
theorem dL_step_187 : decode cL_step 187 = .ok (.irem, 1) := by decide +kernel
theorem dL_step_188 : decode cL_step 188 = .ok (.ishl, 1) := by decide +kernel
theorem dL_step_189 : decode cL_step 189 = .ok (.ior, 1) := by decide +kernel
theorem dL_step_190 : decode cL_step 190 = .ok (.goto 5, 3) := by decide +kernel
theorem dL_step_193 : decode cL_step 193 = .ok (.iload 11, 2) := by decide +kernel
theorem dL_step_195 : decode cL_step 195 = .ok (.istore 11, 2) := by decide +kernel
theorem dL_step_197 : decode cL_step 197 = .ok (.iload 11, 2) := by decide +kernel
theorem dL_step_199 : decode cL_step 199 = .ok (.ifCond .eq 18, 3) := by decide +kernel
theorem dL_step_202 : decode cL_step 202 = .ok (.aload_n 0, 1) := by decide +kernel
theorem dL_step_203 : decode cL_step 203 = .ok (.iload 11, 2) := by decide +kernel
theorem dL_step_205 : decode cL_step 205 = .ok (.aload 4, 2) := by decide +kernel
theorem dL_step_207 : decode cL_step 207 = .ok (.aload 7, 2) := by decide +kernel
theorem dL_step_209 : decode cL_step 209 = .ok (.aload 10, 2) := by decide +kernel
theorem dL_step_211 : decode cL_step 211 = .ok (.invokestatic 154, 3) := by decide +kernel
theorem dL_step_214 : decode cL_step 214 = .ok (.ifCond .eq 7, 3) := by decide +kernel
theorem dL_step_217 : decode cL_step 217 = .ok (.iconst 1, 1) := by decide +kernel
theorem dL_step_218 : decode cL_step 218 = .ok (.goto 4, 3) := by decide +kernel
theorem dL_step_221 : decode cL_step 221 = .ok (.iconst 0, 1) := by decide +kernel
theorem dL_step_222 : decode cL_step 222 = .ok (.ireturn, 1) := by decide +kernel
theorem dL_step_223 : decode cL_step 223 = .ok (.iload_n 1, 1) := by decide +kernel
theorem dL_step_224 : decode cL_step 224 = .ok (.bipush 6, 2) := by decide +kernel
theorem dL_step_226 : decode cL_step 226 = .ok (.if_icmp .ne 105, 3) := by decide +kernel
theorem dL_step_229 : decode cL_step 229 = .ok (.aload 10, 2) := by decide +kernel
theorem dL_step_231 : decode cL_step 231 = .ok (.iconst 2, 1) := by decide +kernel
theorem dL_step_232 : decode cL_step 232 = .ok (.iaload, 1) := by decide +kernel
theorem dL_step_233 : decode cL_step 233 = .ok (.ifCond .eq 9, 3) := by decide +kernel
theorem dL_step_236 : decode cL_step 236 = .ok (.iload_n 3, 1) := by decide +kernel
theorem dL_step_237 : decode cL_step 237 = .ok (.iconst 3, 1) := by decide +kernel
theorem dL_step_238 : decode cL_step 238 = .ok (.irem, 1) := by decide +kernel
theorem dL_step_239 : decode cL_step 239 = .ok (.ifCond .le 5, 3) := by decide +kernel
theorem dL_step_242 : decode cL_step 242 = .ok (.iconst 1, 1) := by decide +kernel
theorem dL_step_243 : decode cL_step 243 = .ok (.ireturn, 1) := by decide +kernel
theorem dL_step_244 : decode cL_step 244 = .ok (.iload_n 2, 1) := by decide +kernel
theorem dL_step_245 : decode cL_step 245 = .ok (.aload 10, 2) := by decide +kernel
theorem dL_step_247 : decode cL_step 247 = .ok (.iconst 2, 1) := by decide +kernel
theorem dL_step_248 : decode cL_step 248 = .ok (.iaload, 1) := by decide +kernel
theorem dL_step_249 : decode cL_step 249 = .ok (.irem, 1) := by decide +kernel
theorem dL_step_250 : decode cL_step 250 = .ok (.istore 11, 2) := by decide +kernel
theorem dL_step_252 : decode cL_step 252 = .ok (.aload 4, 2) := by decide +kernel
theorem dL_step_254 : decode cL_step 254 = .ok (.iload 11, 2) := by decide +kernel
theorem dL_step_256 : decode cL_step 256 = .ok (.invokestatic 77, 3) := by decide +kernel
theorem dL_step_259 : decode cL_step 259 = .ok (.istore 12, 2) := by decide +kernel
theorem dL_step_261 : decode cL_step 261 = .ok (.aload_n 0, 1) := by decide +kernel
theorem dL_step_262 : decode cL_step 262 = .ok (.iconst 1, 1) := by decide +kernel
theorem dL_step_263 : decode cL_step 263 = .ok (.iload 11, 2) := by decide +kernel
theorem dL_step_265 : decode cL_step 265 = .ok (.iconst 0, 1) := by decide +kernel
theorem dL_step_266 : decode cL_step 266 = .ok (.invokestatic 81, 3) := by decide +kernel
theorem dL_step_269 : decode cL_step 269 = .ok (.istore 13, 2) := by decide +kernel
theorem dL_step_271 : decode cL_step 271 = .ok (.aload 4, 2) := by decide +kernel
theorem dL_step_273 : decode cL_step 273 = .ok (.iload 11, 2) := by decide +kernel
theorem dL_step_275 : decode cL_step 275 = .ok (.iload 12, 2) := by decide +kernel
theorem dL_step_277 : decode cL_step 277 = .ok (.ifCond .eq 15, 3) := by decide +kernel
theorem dL_step_280 : decode cL_step 280 = .ok (.aload 4, 2) := by decide +kernel
theorem dL_step_282 : decode cL_step 282 = .ok (.iload 11, 2) := by decide +kernel
theorem dL_step_284 : decode cL_step 284 = .ok (.laload, 1) := by decide +kernel
theorem dL_step_285 : decode cL_step 285 = .ok (.ldc2_w 127, 3) := by decide +kernel
theorem dL_step_288 : decode cL_step 288 = .ok (.land, 1) := by decide +kernel
theorem dL_step_289 : decode cL_step 289 = .ok (.goto 8, 3) := by decide +kernel
theorem dL_step_292 : decode cL_step 292 = .ok (.aload 4, 2) := by decide +kernel
theorem dL_step_294 : decode cL_step 294 = .ok (.iload 11, 2) := by decide +kernel
theorem dL_step_296 : decode cL_step 296 = .ok (.laload, 1) := by decide +kernel
theorem dL_step_297 : decode cL_step 297 = .ok (.lastore, 1) := by decide +kernel
theorem dL_step_298 : decode cL_step 298 = .ok (.iload 13, 2) := by decide +kernel
theorem dL_step_300 : decode cL_step 300 = .ok (.iload 12, 2) := by decide +kernel
theorem dL_step_302 : decode cL_step 302 = .ok (.ifCond .eq 18, 3) := by decide +kernel
theorem dL_step_305 : decode cL_step 305 = .ok (.aload 10, 2) := by decide +kernel
theorem dL_step_307 : decode cL_step 307 = .ok (.iconst 0, 1) := by decide +kernel
theorem dL_step_308 : decode cL_step 308 = .ok (.iaload, 1) := by decide +kernel
theorem dL_step_309 : decode cL_step 309 = .ok (.aload 4, 2) := by decide +kernel
theorem dL_step_311 : decode cL_step 311 = .ok (.iload 11, 2) := by decide +kernel
theorem dL_step_313 : decode cL_step 313 = .ok (.invokestatic 65, 3) := by decide +kernel
theorem dL_step_316 : decode cL_step 316 = .ok (.isub, 1) := by decide +kernel
theorem dL_step_317 : decode cL_step 317 = .ok (.goto 5, 3) := by decide +kernel
theorem dL_step_320 : decode cL_step 320 = .ok (.bipush (-8), 2) := by decide +kernel
theorem dL_step_322 : decode cL_step 322 = .ok (.if_icmp .ne 7, 3) := by decide +kernel
theorem dL_step_325 : decode cL_step 325 = .ok (.iconst 1, 1) := by decide +kernel
theorem dL_step_326 : decode cL_step 326 = .ok (.goto 4, 3) := by decide +kernel
theorem dL_step_329 : decode cL_step 329 = .ok (.iconst 0, 1) := by decide +kernel
theorem dL_step_330 : decode cL_step 330 = .ok (.ireturn, 1) := by decide +kernel
theorem dL_step_331 : decode cL_step 331 = .ok (.iload_n 1, 1) := by decide +kernel
theorem dL_step_332 : decode cL_step 332 = .ok (.bipush 9, 2) := by decide +kernel
theorem dL_step_334 : decode cL_step 334 = .ok (.if_icmp .ge 52, 3) := by decide +kernel
theorem dL_step_337 : decode cL_step 337 = .ok (.aload 9, 2) := by decide +kernel
theorem dL_step_339 : decode cL_step 339 = .ok (.aload 10, 2) := by decide +kernel
theorem dL_step_341 : decode cL_step 341 = .ok (.iconst 3, 1) := by decide +kernel
theorem dL_step_342 : decode cL_step 342 = .ok (.iaload, 1) := by decide +kernel
theorem dL_step_343 : decode cL_step 343 = .ok (.aload 10, 2) := by decide +kernel
theorem dL_step_345 : decode cL_step 345 = .ok (.iconst 0, 1) := by decide +kernel
theorem dL_step_346 : decode cL_step 346 = .ok (.iaload, 1) := by decide +kernel
theorem dL_step_347 : decode cL_step 347 = .ok (.iastore, 1) := by decide +kernel
theorem dL_step_348 : decode cL_step 348 = .ok (.aload 8, 2) := by decide +kernel
theorem dL_step_350 : decode cL_step 350 = .ok (.aload 10, 2) := by decide +kernel
theorem dL_step_352 : decode cL_step 352 = .ok (.iconst 3, 1) := by decide +kernel
theorem dL_step_353 : decode cL_step 353 = .ok (.iaload, 1) := by decide +kernel
theorem dL_step_354 : decode cL_step 354 = .ok (.iconst 0, 1) := by decide +kernel
theorem dL_step_355 : decode cL_step 355 = .ok (.iastore, 1) := by decide +kernel
theorem dL_step_356 : decode cL_step 356 = .ok (.aload 10, 2) := by decide +kernel
theorem dL_step_358 : decode cL_step 358 = .ok (.iconst 3, 1) := by decide +kernel
theorem dL_step_359 : decode cL_step 359 = .ok (.iaload, 1) := by decide +kernel
theorem dL_step_360 : decode cL_step 360 = .ok (.bipush 30, 2) := by decide +kernel
theorem dL_step_362 : decode cL_step 362 = .ok (.if_icmp .eq 18, 3) := by decide +kernel
theorem dL_step_365 : decode cL_step 365 = .ok (.aload_n 0, 1) := by decide +kernel
theorem dL_step_366 : decode cL_step 366 = .ok (.aload 4, 2) := by decide +kernel
theorem dL_step_368 : decode cL_step 368 = .ok (.aload 5, 2) := by decide +kernel
theorem dL_step_370 : decode cL_step 370 = .ok (.aload 6, 2) := by decide +kernel
theorem dL_step_372 : decode cL_step 372 = .ok (.aload 10, 2) := by decide +kernel
theorem dL_step_374 : decode cL_step 374 = .ok (.invokestatic 158, 3) := by decide +kernel
theorem dL_step_377 : decode cL_step 377 = .ok (.ifCond .eq 7, 3) := by decide +kernel
theorem dL_step_380 : decode cL_step 380 = .ok (.iconst 1, 1) := by decide +kernel
theorem dL_step_381 : decode cL_step 381 = .ok (.goto 4, 3) := by decide +kernel
theorem dL_step_384 : decode cL_step 384 = .ok (.iconst 0, 1) := by decide +kernel
theorem dL_step_385 : decode cL_step 385 = .ok (.ireturn, 1) := by decide +kernel
theorem dL_step_386 : decode cL_step 386 = .ok (.iload_n 1, 1) := by decide +kernel
theorem dL_step_387 : decode cL_step 387 = .ok (.bipush 16, 2) := by decide +kernel
theorem dL_step_389 : decode cL_step 389 = .ok (.if_icmp .ge 249, 3) := by decide +kernel
theorem dL_step_392 : decode cL_step 392 = .ok (.aload 10, 2) := by decide +kernel
theorem dL_step_394 : decode cL_step 394 = .ok (.iconst 3, 1) := by decide +kernel
theorem dL_step_395 : decode cL_step 395 = .ok (.iaload, 1) := by decide +kernel
theorem dL_step_396 : decode cL_step 396 = .ok (.ifCond .le 242, 3) := by decide +kernel
theorem dL_step_399 : decode cL_step 399 = .ok (.iload_n 2, 1) := by decide +kernel
theorem dL_step_400 : decode cL_step 400 = .ok (.iconst 5, 1) := by decide +kernel
theorem dL_step_401 : decode cL_step 401 = .ok (.irem, 1) := by decide +kernel
theorem dL_step_402 : decode cL_step 402 = .ok (.ifCond .ne 14, 3) := by decide +kernel
theorem dL_step_405 : decode cL_step 405 = .ok (.iload_n 2, 1) := by decide +kernel
theorem dL_step_406 : decode cL_step 406 = .ok (.iconst 5, 1) := by decide +kernel
theorem dL_step_407 : decode cL_step 407 = .ok (.idiv, 1) := by decide +kernel
theorem dL_step_408 : decode cL_step 408 = .ok (.aload 10, 2) := by decide +kernel
theorem dL_step_410 : decode cL_step 410 = .ok (.iconst 3, 1) := by decide +kernel
theorem dL_step_411 : decode cL_step 411 = .ok (.iaload, 1) := by decide +kernel
theorem dL_step_412 : decode cL_step 412 = .ok (.irem, 1) := by decide +kernel
theorem dL_step_413 : decode cL_step 413 = .ok (.goto 9, 3) := by decide +kernel
theorem dL_step_416 : decode cL_step 416 = .ok (.aload 10, 2) := by decide +kernel
theorem dL_step_418 : decode cL_step 418 = .ok (.iconst 3, 1) := by decide +kernel
theorem dL_step_419 : decode cL_step 419 = .ok (.iaload, 1) := by decide +kernel
theorem dL_step_420 : decode cL_step 420 = .ok (.iconst 1, 1) := by decide +kernel
theorem dL_step_421 : decode cL_step 421 = .ok (.isub, 1) := by decide +kernel
theorem dL_step_422 : decode cL_step 422 = .ok (.istore 11, 2) := by decide +kernel
theorem dL_step_424 : decode cL_step 424 = .ok (.iload_n 2, 1) := by decide +kernel
theorem dL_step_425 : decode cL_step 425 = .ok (.bipush 40, 2) := by decide +kernel
theorem dL_step_427 : decode cL_step 427 = .ok (.idiv, 1) := by decide +kernel
theorem dL_step_428 : decode cL_step 428 = .ok (.aload 10, 2) := by decide +kernel
theorem dL_step_430 : decode cL_step 430 = .ok (.iconst 1, 1) := by decide +kernel
theorem dL_step_431 : decode cL_step 431 = .ok (.iaload, 1) := by decide +kernel
theorem dL_step_432 : decode cL_step 432 = .ok (.irem, 1) := by decide +kernel
theorem dL_step_433 : decode cL_step 433 = .ok (.istore 12, 2) := by decide +kernel
theorem dL_step_435 : decode cL_step 435 = .ok (.iconst 0, 1) := by decide +kernel
theorem dL_step_436 : decode cL_step 436 = .ok (.istore 13, 2) := by decide +kernel
theorem dL_step_438 : decode cL_step 438 = .ok (.iload 13, 2) := by decide +kernel
theorem dL_step_440 : decode cL_step 440 = .ok (.aload 10, 2) := by decide +kernel
theorem dL_step_442 : decode cL_step 442 = .ok (.iconst 1, 1) := by decide +kernel
theorem dL_step_443 : decode cL_step 443 = .ok (.iaload, 1) := by decide +kernel
theorem dL_step_444 : decode cL_step 444 = .ok (.if_icmp .ge 66, 3) := by decide +kernel
theorem dL_step_447 : decode cL_step 447 = .ok (.iload_n 3, 1) := by decide +kernel
theorem dL_step_448 : decode cL_step 448 = .ok (.bipush 8, 2) := by decide +kernel
theorem dL_step_450 : decode cL_step 450 = .ok (.irem, 1) := by decide +kernel
theorem dL_step_451 : decode cL_step 451 = .ok (.ifCond .le 59, 3) := by decide +kernel
theorem dL_step_454 : decode cL_step 454 = .ok (.aload 5, 2) := by decide +kernel
theorem dL_step_456 : decode cL_step 456 = .ok (.iload 11, 2) := by decide +kernel
theorem dL_step_458 : decode cL_step 458 = .ok (.iaload, 1) := by decide +kernel
theorem dL_step_459 : decode cL_step 459 = .ok (.aload 8, 2) := by decide +kernel
theorem dL_step_461 : decode cL_step 461 = .ok (.iload 11, 2) := by decide +kernel
theorem dL_step_463 : decode cL_step 463 = .ok (.iaload, 1) := by decide +kernel
theorem dL_step_464 : decode cL_step 464 = .ok (.iconst (-1), 1) := by decide +kernel
theorem dL_step_465 : decode cL_step 465 = .ok (.ixor, 1) := by decide +kernel
theorem dL_step_466 : decode cL_step 466 = .ok (.iand, 1) := by decide +kernel
theorem dL_step_467 : decode cL_step 467 = .ok (.iload_n 2, 1) := by decide +kernel
theorem dL_step_468 : decode cL_step 468 = .ok (.bipush 40, 2) := by decide +kernel
theorem dL_step_470 : decode cL_step 470 = .ok (.idiv, 1) := by decide +kernel
theorem dL_step_471 : decode cL_step 471 = .ok (.iload 13, 2) := by decide +kernel
theorem dL_step_473 : decode cL_step 473 = .ok (.iadd, 1) := by decide +kernel
theorem dL_step_474 : decode cL_step 474 = .ok (.aload 10, 2) := by decide +kernel
theorem dL_step_476 : decode cL_step 476 = .ok (.iconst 1, 1) := by decide +kernel
theorem dL_step_477 : decode cL_step 477 = .ok (.iaload, 1) := by decide +kernel
theorem dL_step_478 : decode cL_step 478 = .ok (.irem, 1) := by decide +kernel
theorem dL_step_479 : decode cL_step 479 = .ok (.invokestatic 48, 3) := by decide +kernel
theorem dL_step_482 : decode cL_step 482 = .ok (.ifCond .eq 18, 3) := by decide +kernel
theorem dL_step_485 : decode cL_step 485 = .ok (.iload_n 2, 1) := by decide +kernel
theorem dL_step_486 : decode cL_step 486 = .ok (.bipush 40, 2) := by decide +kernel
theorem dL_step_488 : decode cL_step 488 = .ok (.idiv, 1) := by decide +kernel
theorem dL_step_489 : decode cL_step 489 = .ok (.iload 13, 2) := by decide +kernel
theorem dL_step_491 : decode cL_step 491 = .ok (.iadd, 1) := by decide +kernel
theorem dL_step_492 : decode cL_step 492 = .ok (.aload 10, 2) := by decide +kernel
theorem dL_step_494 : decode cL_step 494 = .ok (.iconst 1, 1) := by decide +kernel
theorem dL_step_495 : decode cL_step 495 = .ok (.iaload, 1) := by decide +kernel
theorem dL_step_496 : decode cL_step 496 = .ok (.irem, 1) := by decide +kernel
theorem dL_step_497 : decode cL_step 497 = .ok (.goto 5, 3) := by decide +kernel
theorem dL_step_500 : decode cL_step 500 = .ok (.iload 12, 2) := by decide +kernel
theorem dL_step_502 : decode cL_step 502 = .ok (.istore 12, 2) := by decide +kernel
theorem dL_step_504 : decode cL_step 504 = .ok (.iinc 13 1, 3) := by decide +kernel
theorem dL_step_507 : decode cL_step 507 = .ok (.goto (-69), 3) := by decide +kernel
theorem dL_step_510 : decode cL_step 510 = .ok (.aload_n 0, 1) := by decide +kernel
theorem dL_step_511 : decode cL_step 511 = .ok (.iload 11, 2) := by decide +kernel
theorem dL_step_513 : decode cL_step 513 = .ok (.iload 12, 2) := by decide +kernel
theorem dL_step_515 : decode cL_step 515 = .ok (.iload_n 3, 1) := by decide +kernel
theorem dL_step_516 : decode cL_step 516 = .ok (.bipush 12, 2) := by decide +kernel
theorem dL_step_518 : decode cL_step 518 = .ok (.irem, 1) := by decide +kernel
theorem dL_step_519 : decode cL_step 519 = .ok (.ifCond .le 7, 3) := by decide +kernel
theorem dL_step_522 : decode cL_step 522 = .ok (.iconst 1, 1) := by decide +kernel
theorem dL_step_523 : decode cL_step 523 = .ok (.goto 4, 3) := by decide +kernel
theorem dL_step_526 : decode cL_step 526 = .ok (.iconst 0, 1) := by decide +kernel
theorem dL_step_527 : decode cL_step 527 = .ok (.aload 4, 2) := by decide +kernel
theorem dL_step_529 : decode cL_step 529 = .ok (.aload 5, 2) := by decide +kernel
theorem dL_step_531 : decode cL_step 531 = .ok (.aload 7, 2) := by decide +kernel
theorem dL_step_533 : decode cL_step 533 = .ok (.aload 8, 2) := by decide +kernel
theorem dL_step_535 : decode cL_step 535 = .ok (.aload 10, 2) := by decide +kernel
theorem dL_step_537 : decode cL_step 537 = .ok (.invokestatic 162, 3) := by decide +kernel
theorem dL_step_540 : decode cL_step 540 = .ok (.istore 13, 2) := by decide +kernel
theorem dL_step_542 : decode cL_step 542 = .ok (.iconst 0, 1) := by decide +kernel
theorem dL_step_543 : decode cL_step 543 = .ok (.istore 14, 2) := by decide +kernel
theorem dL_step_545 : decode cL_step 545 = .ok (.iload 14, 2) := by decide +kernel
theorem dL_step_547 : decode cL_step 547 = .ok (.aload 10, 2) := by decide +kernel
theorem dL_step_549 : decode cL_step 549 = .ok (.iconst 1, 1) := by decide +kernel
theorem dL_step_550 : decode cL_step 550 = .ok (.iaload, 1) := by decide +kernel
theorem dL_step_551 : decode cL_step 551 = .ok (.if_icmp .ge 84, 3) := by decide +kernel
theorem dL_step_554 : decode cL_step 554 = .ok (.iload 13, 2) := by decide +kernel
theorem dL_step_556 : decode cL_step 556 = .ok (.ifCond .eq 79, 3) := by decide +kernel
theorem dL_step_559 : decode cL_step 559 = .ok (.iload_n 3, 1) := by decide +kernel
theorem dL_step_560 : decode cL_step 560 = .ok (.iconst 5, 1) := by decide +kernel
theorem dL_step_561 : decode cL_step 561 = .ok (.irem, 1) := by decide +kernel
theorem dL_step_562 : decode cL_step 562 = .ok (.iconst 1, 1) := by decide +kernel
theorem dL_step_563 : decode cL_step 563 = .ok (.if_icmp .le 72, 3) := by decide +kernel
theorem dL_step_566 : decode cL_step 566 = .ok (.aload 5, 2) := by decide +kernel
theorem dL_step_568 : decode cL_step 568 = .ok (.iload 11, 2) := by decide +kernel
theorem dL_step_570 : decode cL_step 570 = .ok (.iaload, 1) := by decide +kernel
theorem dL_step_571 : decode cL_step 571 = .ok (.aload 8, 2) := by decide +kernel
theorem dL_step_573 : decode cL_step 573 = .ok (.iload 11, 2) := by decide +kernel
theorem dL_step_575 : decode cL_step 575 = .ok (.iaload, 1) := by decide +kernel
theorem dL_step_576 : decode cL_step 576 = .ok (.iconst (-1), 1) := by decide +kernel
theorem dL_step_577 : decode cL_step 577 = .ok (.ixor, 1) := by decide +kernel
theorem dL_step_578 : decode cL_step 578 = .ok (.iand, 1) := by decide +kernel
theorem dL_step_579 : decode cL_step 579 = .ok (.iload 14, 2) := by decide +kernel
theorem dL_step_581 : decode cL_step 581 = .ok (.invokestatic 48, 3) := by decide +kernel
theorem dL_step_584 : decode cL_step 584 = .ok (.ifCond .eq 38, 3) := by decide +kernel
theorem dL_step_587 : decode cL_step 587 = .ok (.aload 5, 2) := by decide +kernel
theorem dL_step_589 : decode cL_step 589 = .ok (.iload 11, 2) := by decide +kernel
theorem dL_step_591 : decode cL_step 591 = .ok (.iaload, 1) := by decide +kernel
theorem dL_step_592 : decode cL_step 592 = .ok (.bipush 18, 2) := by decide +kernel
theorem dL_step_594 : decode cL_step 594 = .ok (.ishr, 1) := by decide +kernel
theorem dL_step_595 : decode cL_step 595 = .ok (.iconst 3, 1) := by decide +kernel
theorem dL_step_596 : decode cL_step 596 = .ok (.iand, 1) := by decide +kernel
theorem dL_step_597 : decode cL_step 597 = .ok (.ifCond .ne 25, 3) := by decide +kernel
theorem dL_step_600 : decode cL_step 600 = .ok (.aload_n 0, 1) := by decide +kernel
theorem dL_step_601 : decode cL_step 601 = .ok (.iload 11, 2) := by decide +kernel
theorem dL_step_603 : decode cL_step 603 = .ok (.iload 14, 2) := by decide +kernel
theorem dL_step_605 : decode cL_step 605 = .ok (.iconst 1, 1) := by decide +kernel
theorem dL_step_606 : decode cL_step 606 = .ok (.aload 4, 2) := by decide +kernel
theorem dL_step_608 : decode cL_step 608 = .ok (.aload 5, 2) := by decide +kernel
theorem dL_step_610 : decode cL_step 610 = .ok (.aload 7, 2) := by decide +kernel
theorem dL_step_612 : decode cL_step 612 = .ok (.aload 8, 2) := by decide +kernel
theorem dL_step_614 : decode cL_step 614 = .ok (.aload 10, 2) := by decide +kernel
theorem dL_step_616 : decode cL_step 616 = .ok (.invokestatic 162, 3) := by decide +kernel
theorem dL_step_619 : decode cL_step 619 = .ok (.ifCond .eq 7, 3) := by decide +kernel
theorem dL_step_622 : decode cL_step 622 = .ok (.iconst 1, 1) := by decide +kernel
theorem dL_step_623 : decode cL_step 623 = .ok (.goto 4, 3) := by decide +kernel
theorem dL_step_626 : decode cL_step 626 = .ok (.iconst 0, 1) := by decide +kernel
theorem dL_step_627 : decode cL_step 627 = .ok (.istore 13, 2) := by decide +kernel
theorem dL_step_629 : decode cL_step 629 = .ok (.iinc 14 1, 3) := by decide +kernel
theorem dL_step_632 : decode cL_step 632 = .ok (.goto (-87), 3) := by decide +kernel
theorem dL_step_635 : decode cL_step 635 = .ok (.iload 13, 2) := by decide +kernel
theorem dL_step_637 : decode cL_step 637 = .ok (.ireturn, 1) := by decide +kernel
theorem dL_step_638 : decode cL_step 638 = .ok (.iload_n 1, 1) := by decide +kernel
theorem dL_step_639 : decode cL_step 639 = .ok (.bipush 18, 2) := by decide +kernel
theorem dL_step_641 : decode cL_step 641 = .ok (.if_icmp .ge 51, 3) := by decide +kernel
theorem dL_step_644 : decode cL_step 644 = .ok (.aload 10, 2) := by decide +kernel
theorem dL_step_646 : decode cL_step 646 = .ok (.iconst 3, 1) := by decide +kernel
theorem dL_step_647 : decode cL_step 647 = .ok (.iaload, 1) := by decide +kernel
theorem dL_step_648 : decode cL_step 648 = .ok (.ifCond .le 44, 3) := by decide +kernel
theorem dL_step_651 : decode cL_step 651 = .ok (.iload_n 2, 1) := by decide +kernel
theorem dL_step_652 : decode cL_step 652 = .ok (.iconst 4, 1) := by decide +kernel
theorem dL_step_653 : decode cL_step 653 = .ok (.irem, 1) := by decide +kernel
theorem dL_step_654 : decode cL_step 654 = .ok (.ifCond .ne 14, 3) := by decide +kernel
theorem dL_step_657 : decode cL_step 657 = .ok (.iload_n 2, 1) := by decide +kernel
theorem dL_step_658 : decode cL_step 658 = .ok (.iconst 4, 1) := by decide +kernel
theorem dL_step_659 : decode cL_step 659 = .ok (.idiv, 1) := by decide +kernel
theorem dL_step_660 : decode cL_step 660 = .ok (.aload 10, 2) := by decide +kernel
theorem dL_step_662 : decode cL_step 662 = .ok (.iconst 3, 1) := by decide +kernel
theorem dL_step_663 : decode cL_step 663 = .ok (.iaload, 1) := by decide +kernel
theorem dL_step_664 : decode cL_step 664 = .ok (.irem, 1) := by decide +kernel
theorem dL_step_665 : decode cL_step 665 = .ok (.goto 9, 3) := by decide +kernel
theorem dL_step_668 : decode cL_step 668 = .ok (.aload 10, 2) := by decide +kernel
theorem dL_step_670 : decode cL_step 670 = .ok (.iconst 3, 1) := by decide +kernel
theorem dL_step_671 : decode cL_step 671 = .ok (.iaload, 1) := by decide +kernel
theorem dL_step_672 : decode cL_step 672 = .ok (.iconst 1, 1) := by decide +kernel
theorem dL_step_673 : decode cL_step 673 = .ok (.isub, 1) := by decide +kernel
theorem dL_step_674 : decode cL_step 674 = .ok (.istore 11, 2) := by decide +kernel
theorem dL_step_676 : decode cL_step 676 = .ok (.aload_n 0, 1) := by decide +kernel
theorem dL_step_677 : decode cL_step 677 = .ok (.iload 11, 2) := by decide +kernel
theorem dL_step_679 : decode cL_step 679 = .ok (.iload_n 3, 1) := by decide +kernel
theorem dL_step_680 : decode cL_step 680 = .ok (.iconst 2, 1) := by decide +kernel
theorem dL_step_681 : decode cL_step 681 = .ok (.irem, 1) := by decide +kernel
theorem dL_step_682 : decode cL_step 682 = .ok (.aload 4, 2) := by decide +kernel
theorem dL_step_684 : decode cL_step 684 = .ok (.aload 5, 2) := by decide +kernel
theorem dL_step_686 : decode cL_step 686 = .ok (.aload 10, 2) := by decide +kernel
theorem dL_step_688 : decode cL_step 688 = .ok (.invokestatic 166, 3) := by decide +kernel
theorem dL_step_691 : decode cL_step 691 = .ok (.ireturn, 1) := by decide +kernel
theorem dL_step_692 : decode cL_step 692 = .ok (.aload_n 0, 1) := by decide +kernel
theorem dL_step_693 : decode cL_step 693 = .ok (.iload_n 3, 1) := by decide +kernel
theorem dL_step_694 : decode cL_step 694 = .ok (.iconst 4, 1) := by decide +kernel
theorem dL_step_695 : decode cL_step 695 = .ok (.irem, 1) := by decide +kernel
theorem dL_step_696 : decode cL_step 696 = .ok (.ifCond .ne 14, 3) := by decide +kernel
theorem dL_step_699 : decode cL_step 699 = .ok (.iconst 1, 1) := by decide +kernel
theorem dL_step_700 : decode cL_step 700 = .ok (.iload_n 3, 1) := by decide +kernel
theorem dL_step_701 : decode cL_step 701 = .ok (.iconst 4, 1) := by decide +kernel
theorem dL_step_702 : decode cL_step 702 = .ok (.idiv, 1) := by decide +kernel
theorem dL_step_703 : decode cL_step 703 = .ok (.bipush 30, 2) := by decide +kernel
theorem dL_step_705 : decode cL_step 705 = .ok (.irem, 1) := by decide +kernel
theorem dL_step_706 : decode cL_step 706 = .ok (.iadd, 1) := by decide +kernel
theorem dL_step_707 : decode cL_step 707 = .ok (.goto 10, 3) := by decide +kernel
theorem dL_step_710 : decode cL_step 710 = .ok (.iconst 1, 1) := by decide +kernel
theorem dL_step_711 : decode cL_step 711 = .ok (.iload_n 3, 1) := by decide +kernel
theorem dL_step_712 : decode cL_step 712 = .ok (.iconst 4, 1) := by decide +kernel
theorem dL_step_713 : decode cL_step 713 = .ok (.idiv, 1) := by decide +kernel
theorem dL_step_714 : decode cL_step 714 = .ok (.iconst 3, 1) := by decide +kernel
theorem dL_step_715 : decode cL_step 715 = .ok (.irem, 1) := by decide +kernel
theorem dL_step_716 : decode cL_step 716 = .ok (.iadd, 1) := by decide +kernel
theorem dL_step_717 : decode cL_step 717 = .ok (.aload 4, 2) := by decide +kernel
theorem dL_step_719 : decode cL_step 719 = .ok (.aload 5, 2) := by decide +kernel
theorem dL_step_721 : decode cL_step 721 = .ok (.aload 7, 2) := by decide +kernel
theorem dL_step_723 : decode cL_step 723 = .ok (.aload 8, 2) := by decide +kernel
theorem dL_step_725 : decode cL_step 725 = .ok (.aload 9, 2) := by decide +kernel
theorem dL_step_727 : decode cL_step 727 = .ok (.aload 10, 2) := by decide +kernel
theorem dL_step_729 : decode cL_step 729 = .ok (.invokestatic 170, 3) := by decide +kernel
theorem dL_step_732 : decode cL_step 732 = .ok (.ireturn, 1) := by decide +kernel
set_option maxRecDepth 20000 in
theorem ggL_lobby_X5_init : GoodIn wsL_lobby wsX5_init := goodIn_r _ [9, 10, 11, 12, 13, 14, 15, 16, 17, 18, 19, 20, 21, 22, 23, 24, 25, 26, 27, 28, 29, 30, 31, 32, 33, 34, 35, 36, 37, 38, 39, 40, 41, 42, 43, 44, 45, 46, 563, 564, 565, 558, 559, 560, 561, 562, 566, 567, 568, 569, 570] (by decide +kernel) (by decide +kernel)
set_option maxRecDepth 20000 in
theorem gL_lobby_X5_init : GoodIn wsL_lobby (wsX5_init) := ggL_lobby_X5_init
set_option maxRecDepth 20000 in
theorem ggL_lobby_L_draw : GoodIn wsL_lobby wsL_draw := goodIn_r _ [50, 51, 52, 53] (by decide +kernel) (by decide +kernel)
set_option maxRecDepth 20000 in
theorem gL_lobby_L_draw : GoodIn wsL_lobby (va_wsS RL 176 yL_draw wsL_draw) := goodIn_app (goodIn_of _ (by decide +kernel)) ggL_lobby_L_draw
set_option maxRecDepth 20000 in
theorem ggL_lobby_L_step : GoodIn wsL_lobby wsL_step := goodIn_ca (goodIn_ca (goodIn_ca (goodIn_c (List.mem_of_getElem? (i := 56) (by rfl)) (by decide +kernel) (goodIn_app (goodIn_app (goodIn_app (goodIn_app (goodIn_app (goodIn_app (goodIn_app (goodIn_r wsL_step_r1 [57, 58, 59, 60, 3, 61, 62, 63, 64, 65, 16, 66, 67, 68, 69, 70, 71, 15, 72, 73, 74, 75, 76, 77] (by decide +kernel) (by decide +kernel)) (goodIn_app (goodIn_r wsL_step_r2 [11, 12, 78, 79, 80, 81, 82, 83, 84, 85, 86, 28, 87, 88, 89, 90, 91, 92, 93, 94, 95, 96, 97, 98] (by decide +kernel) (by decide +kernel)) (goodIn_app (goodIn_r wsL_step_r3 [27, 99, 100, 101, 102, 103, 104, 105, 106, 107, 108, 109, 110, 111, 112, 113, 114, 115, 116, 117, 118, 119, 120, 121] (by decide +kernel) (by decide +kernel)) (goodIn_app (goodIn_r wsL_step_r4 [122, 123, 124, 125, 126, 127, 128, 129, 130, 131, 132, 133, 134, 135, 136, 137, 138, 139, 140, 141, 142, 143, 144, 145] (by decide +kernel) (by decide +kernel)) (goodIn_app (goodIn_r wsL_step_r5 [146, 147, 148, 149, 150, 151, 152, 153, 154, 155, 156, 157, 158, 159, 160, 161, 162, 163, 164, 165, 166, 167, 49, 168] (by decide +kernel) (by decide +kernel)) (goodIn_app (show GoodIn wsL_lobby (([Cond.methodLink RL 62 yL_size, Cond.static yL_size, Cond.code yL_size cL_size 3 (some .int), Cond.methodLink RL 92 yX5_state, Cond.instanceMethod yX5_state, Cond.selects RX5 yX5_state yX5_state, Cond.code yX5_state cX5_state 2 (some .int), Cond.methodLink RX5 101 yX3_standing, Cond.instanceMethod yX3_standing, Cond.selects RX3 yX3_standing yX3_standing, Cond.code yX3_standing cX3_standing 1 (some .int), Cond.fieldLink RX3 21 "LobbyMaker$Player" "latest" "LLobbyMaker$Party;", Cond.fieldLink RX3 25 "LobbyMaker$Party" "standing" "I", Cond.methodLink RL 154 yL_queueing, Cond.static yL_queueing] ++ ([Cond.code yL_queueing cL_queueing 7 (some .boolean)] ++ [Cond.constantLong RL 132 (1099511627776), Cond.methodLink RL 48 yL_has, Cond.static yL_has, Cond.code yL_has cL_has 2 (some .boolean), Cond.methodLink RL 81 yL_asks, Cond.static yL_asks, Cond.codeWith yL_asks cL_asks 5 (some .int) [(0, 80, 81, 40), (0, 80, 86, 42)], Cond.classLink RL 40 "java/lang/IndexOutOfBoundsException"])) : List Cond) from (goodIn_app (goodIn_r _ [169, 170, 171, 172, 173, 174, 175, 176, 177, 178, 179, 180, 181, 182, 183] (by decide +kernel) (by decide +kernel)) (goodIn_app (goodIn_1 (List.mem_of_getElem? (i := 184) (by rfl)) (by decide +kernel)) (goodIn_r _ [185, 186, 187, 188, 189, 190, 191, 192] (by decide +kernel) (by decide +kernel))))) (goodIn_app (goodIn_r wsL_step_r7 [193, 194, 195, 196, 197, 17, 198, 199, 200, 23, 201, 202, 203, 204, 205, 206, 207, 208, 209, 210, 211, 212, 213, 214] (by decide +kernel) (by decide +kernel)) (goodIn_app (goodIn_r wsL_step_r8 [215, 216, 217, 218, 219, 220, 221, 222, 14, 223, 224, 225, 25, 26, 29, 30, 31, 32, 33, 34, 35, 36, 37, 38] (by decide +kernel) (by decide +kernel)) (goodIn_app (goodIn_r wsL_step_r9 [226, 227, 228, 229, 230, 231, 232, 233, 234, 235, 236, 237, 238, 239, 240, 241, 242, 243, 244, 245, 246, 247, 248, 249] (by decide +kernel) (by decide +kernel)) (goodIn_app (goodIn_r wsL_step_r10 [250, 251, 252, 253, 254, 255, 256, 257, 258, 259, 260, 261, 262, 263, 264, 265, 18, 266, 267, 268, 269, 270, 271, 272] (by decide +kernel) (by decide +kernel)) (goodIn_app (goodIn_r wsL_step_r11 [273, 274, 275, 276, 277, 278, 279, 280, 281, 282, 283, 284, 285, 286, 287, 288, 289, 290, 291, 292, 293, 294, 295, 296] (by decide +kernel) (by decide +kernel)) (goodIn_app (goodIn_r wsL_step_r12 [297, 298, 299, 300, 301, 302, 303, 304, 305, 306, 307, 308, 309, 310, 311, 312, 313, 314, 315, 316, 317, 318, 319, 320] (by decide +kernel) (by decide +kernel)) (goodIn_app (goodIn_r wsL_step_r13 [321, 322, 323, 324, 325, 326, 327, 328, 329, 330, 331, 332, 333, 334, 335, 336, 337, 338, 339, 340, 341, 342, 343, 344] (by decide +kernel) (by decide +kernel)) (goodIn_app (show GoodIn wsL_lobby (([Cond.methodLink RX5 121 yX2_windowAt, Cond.instanceMethod yX2_windowAt, Cond.selects RX2 yX2_windowAt yX2_windowAt, Cond.code yX2_windowAt cX2_windowAt 2 (some .int), Cond.methodLink RL 77 yL_queues, Cond.static yL_queues, Cond.code yL_queues cL_queues 2 (some .boolean), Cond.methodLink RL 65 yL_since, Cond.static yL_since, Cond.code yL_since cL_since 2 (some .int), Cond.constantLong RL 12 (131071), Cond.methodLink RL 158 yL_makes, Cond.static yL_makes] ++ ([Cond.code yL_makes cL_makes 10 (some .boolean)] ++ [Cond.methodLink RL 54 yL_players, Cond.static yL_players, Cond.code yL_players cL_players 2 (some .int), Cond.constantLong RL 10 (262143), Cond.methodLink RL 120 yX5_make, Cond.instanceMethod yX5_make, Cond.selects RX5 yX5_make yX5_make, Cond.code yX5_make cX5_make 2 (some .int), Cond.fieldLink RX5 25 "LobbyMaker" "draft" "LLobbyMaker$Draft;", Cond.methodLink RX5 131 yX5_gatherCandidates])) : List Cond) from (goodIn_app (goodIn_r _ [345, 346, 347, 348, 349, 350, 351, 352, 353, 354, 355, 356, 357] (by decide +kernel) (by decide +kernel)) (goodIn_app (goodIn_1 (List.mem_of_getElem? (i := 358) (by rfl)) (by decide +kernel)) (goodIn_r _ [359, 360, 361, 362, 363, 364, 365, 366, 22, 367] (by decide +kernel) (by decide +kernel))))) (goodIn_app (goodIn_r wsL_step_r15 [368, 369, 370, 371, 372, 373, 374, 375, 376, 377, 378, 379, 380, 381, 382, 383, 384, 385, 386, 387, 388, 389, 390, 391] (by decide +kernel) (by decide +kernel)) (goodIn_app (goodIn_r wsL_step_r16 [392, 393, 394, 395, 396, 397, 398, 21, 399, 45, 400, 401, 402, 403, 44, 404, 405, 406, 407, 408, 409, 410, 411, 412] (by decide +kernel) (by decide +kernel)) (goodIn_app (goodIn_r wsL_step_r17 [413, 414, 415, 416, 417, 418, 419, 420, 421, 422, 423, 424, 425, 426, 427, 428, 429, 430, 431, 432, 433, 434, 435, 436] (by decide +kernel) (by decide +kernel)) (goodIn_app (goodIn_r wsL_step_r18 [437, 438, 439, 440, 441, 442, 443, 444, 445, 446, 447, 448, 449, 450, 451, 452, 453, 454, 455, 456, 457, 458, 459, 460] (by decide +kernel) (by decide +kernel)) (goodIn_app (show GoodIn wsL_lobby (([Cond.fieldLink RX1 21 "LobbyMaker$Match" "deadline" "I", Cond.classLink RX1 24 RJx4a65c, Cond.methodLink RX1 26 yJx4a65c_init_da8c8, Cond.methodLink RX0 101 yX1_join, Cond.instanceMethod yX1_join, Cond.selects RX1 yX1_join yX1_join, Cond.code yX1_join cX1_join 2 none, Cond.methodLink RX1 37 yJx4a65c_add_9ea2d, Cond.methodLink RL 74 yX5_matches, Cond.instanceMethod yX5_matches, Cond.selects RX5 yX5_matches yX5_matches, Cond.code yX5_matches cX5_matches 1 (some .int), Cond.methodLink RL 123 yL_isMatch, Cond.static yL_isMatch] ++ ([Cond.code yL_isMatch cL_isMatch 19 (some .boolean)] ++ ([Cond.methodLink RL 88 yX5_team, Cond.instanceMethod yX5_team, Cond.selects RX5 yX5_team yX5_team, Cond.code yX5_team cX5_team 4 (some .int), Cond.methodLink RL 113 yL_isTeam, Cond.static yL_isTeam] ++ ([Cond.code yL_isTeam cL_isTeam 9 (some .boolean)] ++ [Cond.arrayClass .int, Cond.methodLink RL 58 yL_sum])))) : List Cond) from (goodIn_app (goodIn_r _ [461, 462, 463, 464, 465, 466, 467, 468, 469, 470, 471, 472, 473, 474] (by decide +kernel) (by decide +kernel)) (goodIn_app (goodIn_1 (List.mem_of_getElem? (i := 475) (by rfl)) (by decide +kernel)) (goodIn_app (goodIn_r _ [476, 477, 478, 479, 480, 481] (by decide +kernel) (by decide +kernel)) (goodIn_app (goodIn_1 (List.mem_of_getElem? (i := 482) (by rfl)) (by decide +kernel)) (goodIn_r _ [5, 483] (by decide +kernel) (by decide +kernel))))))) (goodIn_app (show GoodIn wsL_lobby (([Cond.static yL_sum, Cond.code yL_sum cL_sum 4 (some .int), Cond.methodLink RL 117 yX5_unevenness, Cond.instanceMethod yX5_unevenness, Cond.selects RX5 yX5_unevenness yX5_unevenness, Cond.code yX5_unevenness cX5_unevenness 2 (some .int), Cond.fieldLink RX5 185 "LobbyMaker$Match" "gap" "I", Cond.methodLink RL 110 yL_fit, Cond.static yL_fit, Cond.code yL_fit cL_fit 6 (some .boolean), Cond.methodLink RL 162 yL_answers, Cond.static yL_answers] ++ ([Cond.code yL_answers cL_answers 13 (some .boolean)] ++ [Cond.constant RL 91 (262143), Cond.constant RL 134 (262144), Cond.methodLink RL 98 yX5_level, Cond.instanceMethod yX5_level, Cond.selects RX5 yX5_level yX5_level, Cond.code yX5_level cX5_level 2 (some .int), Cond.fieldLink RX5 109 "LobbyMaker$Player" "penaltyLevel" "I", Cond.methodLink RL 135 yL_ends, Cond.static yL_ends, Cond.code yL_ends cL_ends 6 none, Cond.constant RL 129 (524288)])) : List Cond) from (goodIn_app (goodIn_r _ [484, 485, 486, 487, 488, 489, 490, 491, 492, 493, 494, 495] (by decide +kernel) (by decide +kernel)) (goodIn_app (goodIn_1 (List.mem_of_getElem? (i := 496) (by rfl)) (by decide +kernel)) (goodIn_r _ [497, 498, 499, 500, 501, 502, 503, 504, 505, 506, 507] (by decide +kernel) (by decide +kernel))))) (show GoodIn wsL_lobby (([Cond.constantLong RL 130 (1099511627775), Cond.methodLink RL 139 yL_bar, Cond.static yL_bar, Cond.code yL_bar cL_bar 7 (some .int), Cond.methodLink RL 166 yL_wins, Cond.static yL_wins] ++ ([Cond.code yL_wins cL_wins 21 (some .boolean)] ++ ([Cond.constant RL 143 (8000000), Cond.constant RL 144 (786432), Cond.methodLink RL 170 yL_passes, Cond.static yL_passes] ++ ([Cond.code yL_passes cL_passes 17 (some .boolean)] ++ [Cond.methodLink RL 145 yX5_pass, Cond.instanceMethod yX5_pass, Cond.selects RX5 yX5_pass yX5_pass, Cond.code yX5_pass cX5_pass 5 (some .int), Cond.constant RX5 190 (100000), Cond.fieldLink RX5 193 "LobbyMaker$Match" "deadline" "I", Cond.methodLink RX5 196 yX5_expire, Cond.instanceMethod yX5_expire, Cond.selects RX5 yX5_expire yX5_expire, Cond.code yX5_expire cX5_expire 3 none, Cond.fieldLink RX5 224 "LobbyMaker$Match" "awaited" "I"])))) : List Cond) from (goodIn_app (goodIn_r _ [508, 509, 510, 511, 512, 513] (by decide +kernel) (by decide +kernel)) (goodIn_app (goodIn_1 (List.mem_of_getElem? (i := 514) (by rfl)) (by decide +kernel)) (goodIn_app (goodIn_r _ [515, 516, 517, 518] (by decide +kernel) (by decide +kernel)) (goodIn_app (goodIn_1 (List.mem_of_getElem? (i := 519) (by rfl)) (by decide +kernel)) (goodIn_r _ [520, 521, 522, 523, 524, 525, 526, 527, 528, 529, 530] (by decide +kernel) (by decide +kernel))))))))))))))))))))))))))) (goodIn_r wsX50 [558, 559, 560, 561, 562] (by decide +kernel) (by decide +kernel))) (goodIn_r wsX30 [571, 572, 573, 574, 575, 576] (by decide +kernel) (by decide +kernel))) (goodIn_r wsJx4a65c0 [563, 564, 565] (by decide +kernel) (by decide +kernel))) (goodIn_r wsX20 [577, 578, 579, 580, 581] (by decide +kernel) (by decide +kernel))) (goodIn_r wsX10 [582, 583, 584, 585, 586, 587, 588] (by decide +kernel) (by decide +kernel))) (goodIn_r wsX00 [566, 567, 568, 569, 570] (by decide +kernel) (by decide +kernel)))) (goodIn_sub (fun _ h => List.mem_cons_of_mem _ (List.mem_append_left _ (List.mem_append_left _ (List.mem_append_right _ h)))) (by decide +kernel))) (goodIn_sub (fun _ h => List.mem_cons_of_mem _ (List.mem_append_left _ (List.mem_append_right _ h))) (by decide +kernel))) (goodIn_sub (fun _ h => List.mem_cons_of_mem _ (List.mem_append_right _ h)) (by decide +kernel))
set_option maxRecDepth 20000 in
theorem gL_lobby_L_step : GoodIn wsL_lobby (va_wsS RL 180 yL_step wsL_step) := goodIn_app (goodIn_of _ (by decide +kernel)) ggL_lobby_L_step
set_option maxRecDepth 20000 in
theorem ggL_lobby_L_isLobby : GoodIn wsL_lobby wsL_isLobby := goodIn_ca (goodIn_ca (goodIn_ca (goodIn_c (List.mem_of_getElem? (i := 533) (by rfl)) (by decide +kernel) (goodIn_app (goodIn_app (goodIn_app (goodIn_app (goodIn_app (goodIn_app (goodIn_r wsL_isLobby_r1 [497, 534, 535, 536, 3, 537, 23, 538, 539, 540, 541, 16, 69, 70, 71, 15, 72, 73, 469, 470, 471, 472, 18, 349] (by decide +kernel) (by decide +kernel)) (goodIn_app (goodIn_r wsL_isLobby_r2 [350, 49, 351, 359, 360, 361, 362, 189, 190, 191, 192, 193, 194, 195, 196, 197, 62, 63, 64, 65, 17, 198, 199, 200] (by decide +kernel) (by decide +kernel)) (goodIn_app (goodIn_r wsL_isLobby_r3 [144, 201, 202, 203, 204, 205, 206, 207, 208, 209, 210, 211, 212, 145, 146, 147, 148, 149, 150, 151, 152, 153, 154, 155] (by decide +kernel) (by decide +kernel)) (goodIn_app (goodIn_r wsL_isLobby_r4 [156, 157, 158, 159, 160, 28, 213, 214, 215, 176, 177, 178, 68, 179, 180, 181, 216, 217, 218, 219, 11, 12, 220, 221] (by decide +kernel) (by decide +kernel)) (goodIn_app (goodIn_r wsL_isLobby_r5 [222, 14, 223, 224, 225, 25, 26, 27, 29, 30, 31, 32, 33, 34, 35, 36, 37, 38, 226, 227, 228, 229, 230, 231] (by decide +kernel) (by decide +kernel)) (goodIn_app (goodIn_r wsL_isLobby_r6 [232, 233, 82, 83, 84, 85, 86, 87, 88, 89, 90, 91, 92, 93, 94, 95, 96, 97, 98, 99, 100, 101, 102, 103] (by decide +kernel) (by decide +kernel)) (goodIn_app (goodIn_r wsL_isLobby_r7 [104, 105, 106, 107, 108, 109, 110, 111, 112, 113, 114, 115, 116, 117, 118, 119, 120, 121, 122, 123, 124, 125, 126, 127] (by decide +kernel) (by decide +kernel)) (goodIn_app (goodIn_r wsL_isLobby_r8 [128, 129, 130, 131, 132, 234, 235, 236, 237, 81, 238, 239, 240, 241, 242, 243, 244, 245, 246, 247, 248, 249, 250, 251] (by decide +kernel) (by decide +kernel)) (goodIn_app (goodIn_r wsL_isLobby_r9 [142, 143, 252, 253, 254, 255, 256, 257, 258, 259, 260, 261, 262, 263, 264, 265, 266, 138, 139, 140, 141, 267, 268, 269] (by decide +kernel) (by decide +kernel)) (goodIn_app (goodIn_r wsL_isLobby_r10 [270, 271, 272, 273, 274, 275, 276, 277, 278, 279, 280, 281, 282, 283, 284, 285, 286, 287, 288, 289, 290, 291, 292, 293] (by decide +kernel) (by decide +kernel)) (goodIn_app (goodIn_r wsL_isLobby_r11 [294, 295, 296, 297, 298, 299, 300, 301, 302, 303, 304, 305, 306, 307, 308, 309, 310, 311, 312, 313, 314, 315, 316, 317] (by decide +kernel) (by decide +kernel)) (goodIn_app (goodIn_r wsL_isLobby_r12 [318, 319, 320, 321, 322, 323, 137, 324, 325, 326, 327, 328, 329, 330, 331, 78, 80, 332, 333, 334, 335, 336, 337, 338] (by decide +kernel) (by decide +kernel)) (goodIn_app (goodIn_r wsL_isLobby_r13 [339, 340, 341, 342, 343, 344, 345, 346, 347, 348, 352, 353, 354, 355, 542, 543, 544, 545, 476, 477, 478, 479, 172, 173] (by decide +kernel) (by decide +kernel)) (goodIn_app (goodIn_r wsL_isLobby_r14 [174, 175, 186, 187, 188, 133, 134, 135, 136, 161, 162, 163, 164, 165, 499, 500, 501, 502, 503, 546, 547, 548, 549, 550] (by decide +kernel) (by decide +kernel)) (goodIn_app (goodIn_r wsL_isLobby_r15 [551, 552, 553, 554, 555, 556, 557, 376, 377, 378, 379, 380, 381, 382, 383, 384, 385, 386, 387, 388, 389, 390, 391, 392] (by decide +kernel) (by decide +kernel)) (goodIn_r wsL_isLobby_r16 [393, 394, 395, 491, 492, 493, 483, 484, 485, 169, 170, 171] (by decide +kernel) (by decide +kernel))))))))))))))))) (goodIn_r wsX50 [558, 559, 560, 561, 562] (by decide +kernel) (by decide +kernel))) (goodIn_r wsJx4a65c0 [563, 564, 565] (by decide +kernel) (by decide +kernel))) (goodIn_r wsX20 [577, 578, 579, 580, 581] (by decide +kernel) (by decide +kernel))) (goodIn_r wsX30 [571, 572, 573, 574, 575, 576] (by decide +kernel) (by decide +kernel))) (goodIn_r wsX10 [582, 583, 584, 585, 586, 587, 588] (by decide +kernel) (by decide +kernel)))) (goodIn_sub (fun _ h => List.mem_cons_of_mem _ (List.mem_append_left _ (List.mem_append_left _ (List.mem_append_right _ h)))) (by decide +kernel))) (goodIn_sub (fun _ h => List.mem_cons_of_mem _ (List.mem_append_left _ (List.mem_append_right _ h))) (by decide +kernel))) (goodIn_sub (fun _ h => List.mem_cons_of_mem _ (List.mem_append_right _ h)) (by decide +kernel))
set_option maxRecDepth 20000 in
theorem gL_lobby_L_isLobby : GoodIn wsL_lobby (va_wsS RL 184 yL_isLobby wsL_isLobby) := goodIn_app (goodIn_of _ (by decide +kernel)) ggL_lobby_L_isLobby
theorem dL_lobby_0 : decode cL_lobby 0 = .ok (.new 15, 3) := by decide +kernel
theorem dL_lobby_3 : decode cL_lobby 3 = .ok (.dup, 1) := by decide +kernel
theorem dL_lobby_4 : decode cL_lobby 4 = .ok (.invokespecial 174, 3) := by decide +kernel
theorem dL_lobby_7 : decode cL_lobby 7 = .ok (.astore_n 2, 1) := by decide +kernel
theorem dL_lobby_8 : decode cL_lobby 8 = .ok (.bipush 60, 2) := by decide +kernel
theorem dL_lobby_10 : decode cL_lobby 10 = .ok (.newarray .long, 2) := by decide +kernel
theorem dL_lobby_12 : decode cL_lobby 12 = .ok (.astore_n 3, 1) := by decide +kernel
theorem dL_lobby_13 : decode cL_lobby 13 = .ok (.bipush 31, 2) := by decide +kernel
theorem dL_lobby_15 : decode cL_lobby 15 = .ok (.newarray .int, 2) := by decide +kernel
theorem dL_lobby_17 : decode cL_lobby 17 = .ok (.astore 4, 2) := by decide +kernel
theorem dL_lobby_19 : decode cL_lobby 19 = .ok (.bipush 18, 2) := by decide +kernel
theorem dL_lobby_21 : decode cL_lobby 21 = .ok (.newarray .int, 2) := by decide +kernel
theorem dL_lobby_23 : decode cL_lobby 23 = .ok (.astore 5, 2) := by decide +kernel
theorem dL_lobby_25 : decode cL_lobby 25 = .ok (.bipush 18, 2) := by decide +kernel
theorem dL_lobby_27 : decode cL_lobby 27 = .ok (.newarray .int, 2) := by decide +kernel
theorem dL_lobby_29 : decode cL_lobby 29 = .ok (.astore 6, 2) := by decide +kernel
theorem dL_lobby_31 : decode cL_lobby 31 = .ok (.bipush 31, 2) := by decide +kernel
theorem dL_lobby_33 : decode cL_lobby 33 = .ok (.newarray .int, 2) := by decide +kernel
theorem dL_lobby_35 : decode cL_lobby 35 = .ok (.astore 7, 2) := by decide +kernel
theorem dL_lobby_37 : decode cL_lobby 37 = .ok (.bipush 31, 2) := by decide +kernel
theorem dL_lobby_39 : decode cL_lobby 39 = .ok (.newarray .int, 2) := by decide +kernel
theorem dL_lobby_41 : decode cL_lobby 41 = .ok (.astore 8, 2) := by decide +kernel
theorem dL_lobby_43 : decode cL_lobby 43 = .ok (.iconst 4, 1) := by decide +kernel
theorem dL_lobby_44 : decode cL_lobby 44 = .ok (.newarray .int, 2) := by decide +kernel
theorem dL_lobby_46 : decode cL_lobby 46 = .ok (.astore 9, 2) := by decide +kernel
theorem dL_lobby_48 : decode cL_lobby 48 = .ok (.iconst 0, 1) := by decide +kernel
theorem dL_lobby_49 : decode cL_lobby 49 = .ok (.istore 10, 2) := by decide +kernel
theorem dL_lobby_51 : decode cL_lobby 51 = .ok (.iload 10, 2) := by decide +kernel
theorem dL_lobby_53 : decode cL_lobby 53 = .ok (.bipush 60, 2) := by decide +kernel
theorem dL_lobby_55 : decode cL_lobby 55 = .ok (.if_icmp .ge 124, 3) := by decide +kernel
theorem dL_lobby_58 : decode cL_lobby 58 = .ok (.aload_n 0, 1) := by decide +kernel
theorem dL_lobby_59 : decode cL_lobby 59 = .ok (.iload_n 1, 1) := by decide +kernel
theorem dL_lobby_60 : decode cL_lobby 60 = .ok (.iconst 3, 1) := by decide +kernel
theorem dL_lobby_61 : decode cL_lobby 61 = .ok (.iload 10, 2) := by decide +kernel
theorem dL_lobby_63 : decode cL_lobby 63 = .ok (.imul, 1) := by decide +kernel
theorem dL_lobby_64 : decode cL_lobby 64 = .ok (.iadd, 1) := by decide +kernel
theorem dL_lobby_65 : decode cL_lobby 65 = .ok (.iconst 1, 1) := by decide +kernel
theorem dL_lobby_66 : decode cL_lobby 66 = .ok (.iadd, 1) := by decide +kernel
theorem dL_lobby_67 : decode cL_lobby 67 = .ok (.ldc 175, 2) := by decide +kernel
theorem dL_lobby_69 : decode cL_lobby 69 = .ok (.invokestatic 176, 3) := by decide +kernel
theorem dL_lobby_72 : decode cL_lobby 72 = .ok (.istore 11, 2) := by decide +kernel
theorem dL_lobby_74 : decode cL_lobby 74 = .ok (.aload_n 0, 1) := by decide +kernel
theorem dL_lobby_75 : decode cL_lobby 75 = .ok (.iload_n 1, 1) := by decide +kernel
theorem dL_lobby_76 : decode cL_lobby 76 = .ok (.iconst 3, 1) := by decide +kernel
theorem dL_lobby_77 : decode cL_lobby 77 = .ok (.iload 10, 2) := by decide +kernel
theorem dL_lobby_79 : decode cL_lobby 79 = .ok (.imul, 1) := by decide +kernel
theorem dL_lobby_80 : decode cL_lobby 80 = .ok (.iadd, 1) := by decide +kernel
theorem dL_lobby_81 : decode cL_lobby 81 = .ok (.iconst 2, 1) := by decide +kernel
theorem dL_lobby_82 : decode cL_lobby 82 = .ok (.iadd, 1) := by decide +kernel
theorem dL_lobby_83 : decode cL_lobby 83 = .ok (.ldc 175, 2) := by decide +kernel
theorem dL_lobby_85 : decode cL_lobby 85 = .ok (.invokestatic 176, 3) := by decide +kernel
theorem dL_lobby_88 : decode cL_lobby 88 = .ok (.istore 12, 2) := by decide +kernel
theorem dL_lobby_90 : decode cL_lobby 90 = .ok (.iload 10, 2) := by decide +kernel
theorem dL_lobby_92 : decode cL_lobby 92 = .ok (.bipush 8, 2) := by decide +kernel
theorem dL_lobby_94 : decode cL_lobby 94 = .ok (.if_icmp .ge 7, 3) := by decide +kernel
theorem dL_lobby_97 : decode cL_lobby 97 = .ok (.iconst 0, 1) := by decide +kernel
theorem dL_lobby_98 : decode cL_lobby 98 = .ok (.goto 26, 3) := by decide +kernel
theorem dL_lobby_101 : decode cL_lobby 101 = .ok (.iload 10, 2) := by decide +kernel
theorem dL_lobby_103 : decode cL_lobby 103 = .ok (.bipush 14, 2) := by decide +kernel
theorem dL_lobby_105 : decode cL_lobby 105 = .ok (.if_icmp .ge 7, 3) := by decide +kernel
theorem dL_lobby_108 : decode cL_lobby 108 = .ok (.iconst 1, 1) := by decide +kernel
theorem dL_lobby_109 : decode cL_lobby 109 = .ok (.goto 15, 3) := by decide +kernel
theorem dL_lobby_112 : decode cL_lobby 112 = .ok (.aload_n 0, 1) := by decide +kernel
theorem dL_lobby_113 : decode cL_lobby 113 = .ok (.iload_n 1, 1) := by decide +kernel
theorem dL_lobby_114 : decode cL_lobby 114 = .ok (.iconst 3, 1) := by decide +kernel
theorem dL_lobby_115 : decode cL_lobby 115 = .ok (.iload 10, 2) := by decide +kernel
theorem dL_lobby_117 : decode cL_lobby 117 = .ok (.imul, 1) := by decide +kernel
theorem dL_lobby_118 : decode cL_lobby 118 = .ok (.iadd, 1) := by decide +kernel
theorem dL_lobby_119 : decode cL_lobby 119 = .ok (.bipush 21, 2) := by decide +kernel
theorem dL_lobby_121 : decode cL_lobby 121 = .ok (.invokestatic 176, 3) := by decide +kernel
theorem dL_lobby_124 : decode cL_lobby 124 = .ok (.istore 13, 2) := by decide +kernel
theorem dL_lobby_126 : decode cL_lobby 126 = .ok (.aload_n 2, 1) := by decide +kernel
theorem dL_lobby_127 : decode cL_lobby 127 = .ok (.iload 13, 2) := by decide +kernel
theorem dL_lobby_129 : decode cL_lobby 129 = .ok (.iload 11, 2) := by decide +kernel
theorem dL_lobby_131 : decode cL_lobby 131 = .ok (.iload 12, 2) := by decide +kernel
theorem dL_lobby_133 : decode cL_lobby 133 = .ok (.aload_n 3, 1) := by decide +kernel
theorem dL_lobby_134 : decode cL_lobby 134 = .ok (.aload 4, 2) := by decide +kernel
theorem dL_lobby_136 : decode cL_lobby 136 = .ok (.aload 5, 2) := by decide +kernel
theorem dL_lobby_138 : decode cL_lobby 138 = .ok (.aload 6, 2) := by decide +kernel
theorem dL_lobby_140 : decode cL_lobby 140 = .ok (.aload 7, 2) := by decide +kernel
theorem dL_lobby_142 : decode cL_lobby 142 = .ok (.aload 8, 2) := by decide +kernel
theorem dL_lobby_144 : decode cL_lobby 144 = .ok (.aload 9, 2) := by decide +kernel
theorem dL_lobby_146 : decode cL_lobby 146 = .ok (.invokestatic 180, 3) := by decide +kernel
theorem dL_lobby_149 : decode cL_lobby 149 = .ok (.ifCond .eq 22, 3) := by decide +kernel
theorem dL_lobby_152 : decode cL_lobby 152 = .ok (.aload_n 2, 1) := by decide +kernel
theorem dL_lobby_153 : decode cL_lobby 153 = .ok (.aload_n 3, 1) := by decide +kernel
theorem dL_lobby_154 : decode cL_lobby 154 = .ok (.aload 4, 2) := by decide +kernel
theorem dL_lobby_156 : decode cL_lobby 156 = .ok (.aload 6, 2) := by decide +kernel
theorem dL_lobby_158 : decode cL_lobby 158 = .ok (.aload 9, 2) := by decide +kernel
theorem dL_lobby_160 : decode cL_lobby 160 = .ok (.iload 11, 2) := by decide +kernel
theorem dL_lobby_162 : decode cL_lobby 162 = .ok (.bipush 9, 2) := by decide +kernel
theorem dL_lobby_164 : decode cL_lobby 164 = .ok (.idiv, 1) := by decide +kernel
theorem dL_lobby_165 : decode cL_lobby 165 = .ok (.invokestatic 184, 3) := by decide +kernel
theorem dL_lobby_168 : decode cL_lobby 168 = .ok (.ifCond .ne 5, 3) := by decide +kernel
theorem dL_lobby_171 : decode cL_lobby 171 = .ok (.iconst 0, 1) := by decide +kernel
theorem dL_lobby_172 : decode cL_lobby 172 = .ok (.ireturn, 1) := by decide +kernel
theorem dL_lobby_173 : decode cL_lobby 173 = .ok (.iinc 10 1, 3) := by decide +kernel
theorem dL_lobby_176 : decode cL_lobby 176 = .ok (.goto (-125), 3) := by decide +kernel
theorem dL_lobby_179 : decode cL_lobby 179 = .ok (.iconst 1, 1) := by decide +kernel
theorem dL_lobby_180 : decode cL_lobby 180 = .ok (.ireturn, 1) := by decide +kernel
set_option maxRecDepth 20000 in
theorem ggL_law_L_lobby : GoodIn wsL_law wsL_lobby := goodIn_ca (goodIn_ca (goodIn_ca (goodIn_c (List.mem_of_getElem? (i := 3) (by rfl)) (by decide +kernel) (goodIn_app (goodIn_app (goodIn_app (goodIn_app (goodIn_app (goodIn_app (goodIn_app (goodIn_r wsL_lobby_r1 [4, 5, 6, 7, 8, 9, 10, 11, 12, 13, 14, 15, 16, 17, 18, 19, 20, 21, 22, 23, 24, 25, 26, 27] (by decide +kernel) (by decide +kernel)) (goodIn_app (goodIn_r wsL_lobby_r2 [28, 29, 30, 31, 32, 33, 34, 35, 36, 37, 38, 39, 40, 41, 42, 43, 44, 45, 46, 47, 48, 49, 50, 51] (by decide +kernel) (by decide +kernel)) (goodIn_app (show GoodIn wsL_law (([Cond.initialized RL, Cond.code yL_draw cL_draw 4 (some .int), Cond.constant RL 7 (987219433), Cond.constant RL 8 (968225239), Cond.constant RL 9 (2147483647), Cond.methodLink RL 180 yL_step, Cond.static yL_step] ++ ([Cond.code yL_step cL_step 15 (some .boolean)] ++ [Cond.constantLong RL 127 (-1099511627777), Cond.methodLink RL 148 yX5_addPlayer, Cond.instanceMethod yX5_addPlayer, Cond.selects RX5 yX5_addPlayer yX5_addPlayer, Cond.code yX5_addPlayer cX5_addPlayer 3 (some .int), Cond.classLink RX5 33 "java/lang/IllegalArgumentException", Cond.initialized "java/lang/IllegalArgumentException", Cond.classLink RX5 44 "java/lang/IllegalStateException", Cond.initialized "java/lang/IllegalStateException", Cond.classLink RX5 49 RX3, Cond.instantiable RX3 6, Cond.initialized RX3, Cond.methodLink RX5 40 yJx4a65c_size_8abf5, Cond.instanceMethod yJx4a65c_size_8abf5, Cond.selects RJx4a65c yJx4a65c_size_8abf5 yJx4a65c_size_8abf5, Cond.code yJx4a65c_size_8abf5 cJx4a65c_size_8abf5 1 (some .int)])) : List Cond) from (goodIn_app (goodIn_r _ [2, 52, 53, 54, 55, 56, 57] (by decide +kernel) (by decide +kernel)) (goodIn_app (goodIn_1 (List.mem_of_getElem? (i := 58) (by rfl)) (by decide +kernel)) (goodIn_r _ [59, 60, 61, 62, 63, 64, 65, 66, 67, 68, 69, 70, 71, 72, 73, 74] (by decide +kernel) (by decide +kernel))))) (goodIn_app (goodIn_r wsL_lobby_r4 [75, 76, 77, 78, 79, 80, 81, 82, 83, 84, 85, 86, 87, 88, 89, 90, 91, 92, 93, 94, 95, 96, 97, 98] (by decide +kernel) (by decide +kernel)) (goodIn_app (goodIn_r wsL_lobby_r5 [99, 100, 101, 102, 103, 104, 105, 106, 107, 108, 109, 110, 111, 112, 113, 114, 115, 116, 117, 118, 119, 120, 121, 122] (by decide +kernel) (by decide +kernel)) (goodIn_app (goodIn_r wsL_lobby_r6 [123, 124, 125, 126, 127, 128, 129, 130, 131, 132, 133, 134, 135, 136, 137, 138, 139, 140, 141, 142, 143, 144, 145, 146] (by decide +kernel) (by decide +kernel)) (goodIn_app (goodIn_r wsL_lobby_r7 [147, 148, 149, 150, 151, 152, 153, 154, 155, 156, 157, 158, 159, 160, 161, 162, 163, 164, 165, 166, 167, 168, 169, 170] (by decide +kernel) (by decide +kernel)) (goodIn_app (show GoodIn wsL_law (([Cond.methodLink RL 62 yL_size, Cond.static yL_size, Cond.code yL_size cL_size 3 (some .int), Cond.methodLink RL 92 yX5_state, Cond.instanceMethod yX5_state, Cond.selects RX5 yX5_state yX5_state, Cond.code yX5_state cX5_state 2 (some .int), Cond.methodLink RX5 101 yX3_standing, Cond.instanceMethod yX3_standing, Cond.selects RX3 yX3_standing yX3_standing, Cond.code yX3_standing cX3_standing 1 (some .int), Cond.fieldLink RX3 21 "LobbyMaker$Player" "latest" "LLobbyMaker$Party;", Cond.fieldLink RX3 25 "LobbyMaker$Party" "standing" "I", Cond.methodLink RL 154 yL_queueing, Cond.static yL_queueing] ++ ([Cond.code yL_queueing cL_queueing 7 (some .boolean)] ++ [Cond.constantLong RL 132 (1099511627776), Cond.methodLink RL 48 yL_has, Cond.static yL_has, Cond.code yL_has cL_has 2 (some .boolean), Cond.methodLink RL 81 yL_asks, Cond.static yL_asks, Cond.codeWith yL_asks cL_asks 5 (some .int) [(0, 80, 81, 40), (0, 80, 86, 42)], Cond.classLink RL 40 "java/lang/IndexOutOfBoundsException"])) : List Cond) from (goodIn_app (goodIn_r _ [171, 172, 173, 174, 175, 176, 177, 178, 179, 180, 181, 182, 183, 184, 185] (by decide +kernel) (by decide +kernel)) (goodIn_app (goodIn_1 (List.mem_of_getElem? (i := 186) (by rfl)) (by decide +kernel)) (goodIn_r _ [187, 188, 189, 190, 191, 192, 193, 194] (by decide +kernel) (by decide +kernel))))) (goodIn_app (goodIn_r wsL_lobby_r9 [195, 196, 197, 198, 199, 200, 201, 202, 203, 204, 205, 206, 207, 208, 209, 210, 211, 212, 213, 214, 215, 216, 217, 218] (by decide +kernel) (by decide +kernel)) (goodIn_app (goodIn_r wsL_lobby_r10 [219, 220, 221, 222, 223, 224, 225, 226, 227, 228, 229, 230, 231, 232, 233, 234, 235, 236, 237, 238, 239, 240, 241, 242] (by decide +kernel) (by decide +kernel)) (goodIn_app (goodIn_r wsL_lobby_r11 [243, 244, 245, 246, 247, 248, 249, 250, 251, 252, 253, 254, 255, 256, 257, 258, 259, 260, 261, 262, 263, 264, 265, 266] (by decide +kernel) (by decide +kernel)) (goodIn_app (goodIn_r wsL_lobby_r12 [267, 268, 269, 270, 271, 272, 273, 274, 275, 276, 277, 278, 279, 280, 281, 282, 283, 284, 285, 286, 287, 288, 289, 290] (by decide +kernel) (by decide +kernel)) (goodIn_app (goodIn_r wsL_lobby_r13 [291, 292, 293, 294, 295, 296, 297, 298, 299, 300, 301, 302, 303, 304, 305, 306, 307, 308, 309, 310, 311, 312, 313, 314] (by decide +kernel) (by decide +kernel)) (goodIn_app (goodIn_r wsL_lobby_r14 [315, 316, 317, 318, 319, 320, 321, 322, 323, 324, 325, 326, 327, 328, 329, 330, 331, 332, 333, 334, 335, 336, 337, 338] (by decide +kernel) (by decide +kernel)) (goodIn_app (show GoodIn wsL_law (([Cond.methodLink RX5 182 yX1_end, Cond.instanceMethod yX1_end, Cond.selects RX1 yX1_end yX1_end, Cond.code yX1_end cX1_end 1 none, Cond.methodLink RL 37 yX5_window, Cond.instanceMethod yX5_window, Cond.selects RX5 yX5_window yX5_window, Cond.code yX5_window cX5_window 2 (some .int), Cond.methodLink RX5 121 yX2_windowAt, Cond.instanceMethod yX2_windowAt, Cond.selects RX2 yX2_windowAt yX2_windowAt, Cond.code yX2_windowAt cX2_windowAt 2 (some .int), Cond.methodLink RL 77 yL_queues, Cond.static yL_queues, Cond.code yL_queues cL_queues 2 (some .boolean), Cond.methodLink RL 65 yL_since, Cond.static yL_since, Cond.code yL_since cL_since 2 (some .int), Cond.constantLong RL 12 (131071), Cond.methodLink RL 158 yL_makes, Cond.static yL_makes] ++ ([Cond.code yL_makes cL_makes 10 (some .boolean)] ++ [Cond.methodLink RL 54 yL_players, Cond.static yL_players])) : List Cond) from (goodIn_app (goodIn_r _ [339, 340, 341, 342, 343, 344, 345, 346, 347, 348, 349, 350, 351, 352, 353, 354, 355, 356, 357, 358, 359] (by decide +kernel) (by decide +kernel)) (goodIn_app (goodIn_1 (List.mem_of_getElem? (i := 360) (by rfl)) (by decide +kernel)) (goodIn_r _ [361, 362] (by decide +kernel) (by decide +kernel))))) (goodIn_app (goodIn_r wsL_lobby_r16 [363, 364, 365, 366, 367, 368, 369, 370, 371, 372, 373, 374, 375, 376, 377, 378, 379, 380, 381, 382, 383, 384, 385, 386] (by decide +kernel) (by decide +kernel)) (goodIn_app (goodIn_r wsL_lobby_r17 [387, 388, 389, 390, 391, 392, 393, 394, 395, 396, 397, 398, 399, 400, 401, 402, 403, 404, 405, 406, 407, 408, 409, 410] (by decide +kernel) (by decide +kernel)) (goodIn_app (goodIn_r wsL_lobby_r18 [411, 412, 413, 414, 415, 416, 417, 418, 419, 420, 421, 422, 423, 424, 425, 426, 427, 428, 429, 430, 431, 432, 433, 434] (by decide +kernel) (by decide +kernel)) (goodIn_app (goodIn_r wsL_lobby_r19 [435, 436, 437, 438, 439, 440, 441, 442, 443, 444, 445, 446, 447, 448, 449, 450, 451, 452, 453, 454, 455, 456, 457, 458] (by decide +kernel) (by decide +kernel)) (goodIn_app (show GoodIn wsL_law (([Cond.methodLink RX1 3 objectInit, Cond.fieldLink RX1 9 "LobbyMaker$Match" "teamZero" "I", Cond.fieldLink RX1 15 "LobbyMaker$Match" "teamOne" "I", Cond.fieldLink RX1 18 "LobbyMaker$Match" "gap" "I", Cond.fieldLink RX1 21 "LobbyMaker$Match" "deadline" "I", Cond.classLink RX1 24 RJx4a65c, Cond.methodLink RX1 26 yJx4a65c_init_da8c8, Cond.methodLink RX0 101 yX1_join, Cond.instanceMethod yX1_join, Cond.selects RX1 yX1_join yX1_join, Cond.code yX1_join cX1_join 2 none, Cond.methodLink RX1 37 yJx4a65c_add_9ea2d, Cond.methodLink RL 74 yX5_matches, Cond.instanceMethod yX5_matches, Cond.selects RX5 yX5_matches yX5_matches, Cond.code yX5_matches cX5_matches 1 (some .int), Cond.methodLink RL 123 yL_isMatch, Cond.static yL_isMatch] ++ ([Cond.code yL_isMatch cL_isMatch 19 (some .boolean)] ++ [Cond.methodLink RL 88 yX5_team, Cond.instanceMethod yX5_team, Cond.selects RX5 yX5_team yX5_team, Cond.code yX5_team cX5_team 4 (some .int), Cond.methodLink RL 113 yL_isTeam])) : List Cond) from (goodIn_app (goodIn_r _ [459, 460, 461, 462, 463, 464, 465, 466, 467, 468, 469, 470, 471, 472, 473, 474, 475, 476] (by decide +kernel) (by decide +kernel)) (goodIn_app (goodIn_1 (List.mem_of_getElem? (i := 477) (by rfl)) (by decide +kernel)) (goodIn_r _ [478, 479, 480, 481, 482] (by decide +kernel) (by decide +kernel))))) (goodIn_app (show GoodIn wsL_law (([Cond.static yL_isTeam] ++ ([Cond.code yL_isTeam cL_isTeam 9 (some .boolean)] ++ ([Cond.methodLink RL 58 yL_sum, Cond.static yL_sum, Cond.code yL_sum cL_sum 4 (some .int), Cond.methodLink RL 117 yX5_unevenness, Cond.instanceMethod yX5_unevenness, Cond.selects RX5 yX5_unevenness yX5_unevenness, Cond.code yX5_unevenness cX5_unevenness 2 (some .int), Cond.fieldLink RX5 185 "LobbyMaker$Match" "gap" "I", Cond.methodLink RL 110 yL_fit, Cond.static yL_fit, Cond.code yL_fit cL_fit 6 (some .boolean), Cond.methodLink RL 162 yL_answers, Cond.static yL_answers] ++ ([Cond.code yL_answers cL_answers 13 (some .boolean)] ++ [Cond.constant RL 91 (262143), Cond.constant RL 134 (262144), Cond.methodLink RL 98 yX5_level, Cond.instanceMethod yX5_level, Cond.selects RX5 yX5_level yX5_level, Cond.code yX5_level cX5_level 2 (some .int), Cond.fieldLink RX5 109 "LobbyMaker$Player" "penaltyLevel" "I", Cond.methodLink RL 135 yL_ends])))) : List Cond) from (goodIn_app (goodIn_r _ [483] (by decide +kernel) (by decide +kernel)) (goodIn_app (goodIn_1 (List.mem_of_getElem? (i := 484) (by rfl)) (by decide +kernel)) (goodIn_app (goodIn_r _ [485, 486, 487, 488, 489, 490, 491, 492, 493, 494, 495, 496, 497] (by decide +kernel) (by decide +kernel)) (goodIn_app (goodIn_1 (List.mem_of_getElem? (i := 498) (by rfl)) (by decide +kernel)) (goodIn_r _ [499, 500, 501, 502, 503, 504, 505, 506] (by decide +kernel) (by decide +kernel))))))) (goodIn_app (show GoodIn wsL_law (([Cond.static yL_ends, Cond.code yL_ends cL_ends 6 none, Cond.constant RL 129 (524288), Cond.constantLong RL 130 (1099511627775), Cond.methodLink RL 139 yL_bar, Cond.static yL_bar, Cond.code yL_bar cL_bar 7 (some .int), Cond.methodLink RL 166 yL_wins, Cond.static yL_wins] ++ ([Cond.code yL_wins cL_wins 21 (some .boolean)] ++ ([Cond.constant RL 143 (8000000), Cond.constant RL 144 (786432), Cond.methodLink RL 170 yL_passes, Cond.static yL_passes] ++ ([Cond.code yL_passes cL_passes 17 (some .boolean)] ++ [Cond.methodLink RL 145 yX5_pass, Cond.instanceMethod yX5_pass, Cond.selects RX5 yX5_pass yX5_pass, Cond.code yX5_pass cX5_pass 5 (some .int), Cond.constant RX5 190 (100000), Cond.fieldLink RX5 193 "LobbyMaker$Match" "deadline" "I", Cond.methodLink RX5 196 yX5_expire, Cond.instanceMethod yX5_expire, Cond.selects RX5 yX5_expire yX5_expire])))) : List Cond) from (goodIn_app (goodIn_r _ [507, 508, 509, 510, 511, 512, 513, 514, 515] (by decide +kernel) (by decide +kernel)) (goodIn_app (goodIn_1 (List.mem_of_getElem? (i := 516) (by rfl)) (by decide +kernel)) (goodIn_app (goodIn_r _ [517, 518, 519, 520] (by decide +kernel) (by decide +kernel)) (goodIn_app (goodIn_1 (List.mem_of_getElem? (i := 521) (by rfl)) (by decide +kernel)) (goodIn_r _ [522, 523, 524, 525, 526, 527, 528, 529, 530] (by decide +kernel) (by decide +kernel))))))) (goodIn_app (show GoodIn wsL_law (([Cond.code yX5_expire cX5_expire 3 none, Cond.fieldLink RX5 224 "LobbyMaker$Match" "awaited" "I", Cond.methodLink RL 184 yL_isLobby, Cond.static yL_isLobby] ++ ([Cond.code yL_isLobby cL_isLobby 12 (some .boolean)] ++ [Cond.methodLink RL 68 yX5_clock, Cond.instanceMethod yX5_clock, Cond.selects RX5 yX5_clock yX5_clock, Cond.code yX5_clock cX5_clock 1 (some .int), Cond.methodLink RL 72 yX5_players, Cond.instanceMethod yX5_players, Cond.selects RX5 yX5_players yX5_players, Cond.code yX5_players cX5_players 1 (some .int), Cond.methodLink RL 85 yX5_matchState, Cond.instanceMethod yX5_matchState, Cond.selects RX5 yX5_matchState yX5_matchState, Cond.code yX5_matchState cX5_matchState 2 (some .int), Cond.methodLink RL 101 yX5_barred, Cond.instanceMethod yX5_barred, Cond.selects RX5 yX5_barred yX5_barred, Cond.code yX5_barred cX5_barred 2 (some .int), Cond.methodLink RL 104 yX5_queued, Cond.instanceMethod yX5_queued, Cond.selects RX5 yX5_queued yX5_queued])) : List Cond) from (goodIn_app (goodIn_r _ [531, 532, 533, 534] (by decide +kernel) (by decide +kernel)) (goodIn_app (goodIn_1 (List.mem_of_getElem? (i := 535) (by rfl)) (by decide +kernel)) (goodIn_r _ [536, 537, 538, 539, 540, 541, 542, 543, 544, 545, 546, 547, 548, 549, 550, 551, 552, 553, 554] (by decide +kernel) (by decide +kernel))))) (goodIn_r wsL_lobby_r24 [555, 556, 557, 558, 559] (by decide +kernel) (by decide +kernel))))))))))))))))))))))))) (goodIn_r wsX50 [560, 561, 562, 563, 564] (by decide +kernel) (by decide +kernel))) (goodIn_r wsJx4a65c0 [565, 566, 567] (by decide +kernel) (by decide +kernel))) (goodIn_r wsX00 [568, 569, 570, 571, 572] (by decide +kernel) (by decide +kernel))) (goodIn_r wsX30 [573, 574, 575, 576, 577, 578] (by decide +kernel) (by decide +kernel))) (goodIn_r wsX20 [579, 580, 581, 582, 583] (by decide +kernel) (by decide +kernel))) (goodIn_r wsX10 [584, 585, 586, 587, 588, 589, 590] (by decide +kernel) (by decide +kernel)))) (goodIn_sub (fun _ h => List.mem_append_left _ (List.mem_append_left _ (List.mem_append_right _ h))) (by decide +kernel))) (goodIn_sub (fun _ h => List.mem_append_left _ (List.mem_append_right _ h)) (by decide +kernel))) (goodIn_sub (fun _ h => List.mem_append_right _ h) (by decide +kernel))
set_option maxRecDepth 20000 in
theorem gL_law_L_lobby : GoodIn wsL_law (va_wsS RL 188 yL_lobby wsL_lobby) := goodIn_app (goodIn_of _ (by decide +kernel)) ggL_law_L_lobby
theorem dL_law_0 : decode cL_law 0 = .ok (.aload_n 0, 1) := by decide +kernel
theorem dL_law_1 : decode cL_law 1 = .ok (.iconst 0, 1) := by decide +kernel
theorem dL_law_2 : decode cL_law 2 = .ok (.invokestatic 188, 3) := by decide +kernel
theorem dL_law_5 : decode cL_law 5 = .ok (.ifCond .eq 27, 3) := by decide +kernel
theorem dL_law_8 : decode cL_law 8 = .ok (.aload_n 0, 1) := by decide +kernel
theorem dL_law_9 : decode cL_law 9 = .ok (.sipush 185, 3) := by decide +kernel
theorem dL_law_12 : decode cL_law 12 = .ok (.invokestatic 188, 3) := by decide +kernel
theorem dL_law_15 : decode cL_law 15 = .ok (.ifCond .eq 17, 3) := by decide +kernel
theorem dL_law_18 : decode cL_law 18 = .ok (.aload_n 0, 1) := by decide +kernel
theorem dL_law_19 : decode cL_law 19 = .ok (.sipush 370, 3) := by decide +kernel
theorem dL_law_22 : decode cL_law 22 = .ok (.invokestatic 188, 3) := by decide +kernel
theorem dL_law_25 : decode cL_law 25 = .ok (.ifCond .eq 7, 3) := by decide +kernel
theorem dL_law_28 : decode cL_law 28 = .ok (.iconst 1, 1) := by decide +kernel
theorem dL_law_29 : decode cL_law 29 = .ok (.goto 4, 3) := by decide +kernel
theorem dL_law_32 : decode cL_law 32 = .ok (.iconst 0, 1) := by decide +kernel
theorem dL_law_33 : decode cL_law 33 = .ok (.ireturn, 1) := by decide +kernel
