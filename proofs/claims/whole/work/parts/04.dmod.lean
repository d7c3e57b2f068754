theorem dX6_init_0 : decode cX6_init 0 = .ok (.aload_n 0, 1) := by decide +kernel
theorem dX6_init_1 : decode cX6_init 1 = .ok (.invokespecial 1, 3) := by decide +kernel
theorem dX6_init_4 : decode cX6_init 4 = .ok (.aload_n 0, 1) := by decide +kernel
theorem dX6_init_5 : decode cX6_init 5 = .ok (.bipush 18, 2) := by decide +kernel
theorem dX6_init_7 : decode cX6_init 7 = .ok (.newarray .int, 2) := by decide +kernel
theorem dX6_init_9 : decode cX6_init 9 = .ok (.putfield 7, 3) := by decide +kernel
theorem dX6_init_12 : decode cX6_init 12 = .ok (.aload_n 0, 1) := by decide +kernel
theorem dX6_init_13 : decode cX6_init 13 = .ok (.bipush 18, 2) := by decide +kernel
theorem dX6_init_15 : decode cX6_init 15 = .ok (.newarray .int, 2) := by decide +kernel
theorem dX6_init_17 : decode cX6_init 17 = .ok (.putfield 13, 3) := by decide +kernel
theorem dX6_init_20 : decode cX6_init 20 = .ok (.aload_n 0, 1) := by decide +kernel
theorem dX6_init_21 : decode cX6_init 21 = .ok (.bipush 18, 2) := by decide +kernel
theorem dX6_init_23 : decode cX6_init 23 = .ok (.newarray .int, 2) := by decide +kernel
theorem dX6_init_25 : decode cX6_init 25 = .ok (.putfield 16, 3) := by decide +kernel
theorem dX6_init_28 : decode cX6_init 28 = .ok (.aload_n 0, 1) := by decide +kernel
theorem dX6_init_29 : decode cX6_init 29 = .ok (.bipush 18, 2) := by decide +kernel
theorem dX6_init_31 : decode cX6_init 31 = .ok (.newarray .int, 2) := by decide +kernel
theorem dX6_init_33 : decode cX6_init 33 = .ok (.putfield 19, 3) := by decide +kernel
theorem dX6_init_36 : decode cX6_init 36 = .ok (.aload_n 0, 1) := by decide +kernel
theorem dX6_init_37 : decode cX6_init 37 = .ok (.bipush 18, 2) := by decide +kernel
theorem dX6_init_39 : decode cX6_init 39 = .ok (.newarray .int, 2) := by decide +kernel
theorem dX6_init_41 : decode cX6_init 41 = .ok (.putfield 22, 3) := by decide +kernel
theorem dX6_init_44 : decode cX6_init 44 = .ok (.aload_n 0, 1) := by decide +kernel
theorem dX6_init_45 : decode cX6_init 45 = .ok (.bipush 18, 2) := by decide +kernel
theorem dX6_init_47 : decode cX6_init 47 = .ok (.newarray .int, 2) := by decide +kernel
theorem dX6_init_49 : decode cX6_init 49 = .ok (.putfield 25, 3) := by decide +kernel
theorem dX6_init_52 : decode cX6_init 52 = .ok (.aload_n 0, 1) := by decide +kernel
theorem dX6_init_53 : decode cX6_init 53 = .ok (.bipush 100, 2) := by decide +kernel
theorem dX6_init_55 : decode cX6_init 55 = .ok (.newarray .int, 2) := by decide +kernel
theorem dX6_init_57 : decode cX6_init 57 = .ok (.putfield 28, 3) := by decide +kernel
theorem dX6_init_60 : decode cX6_init 60 = .ok (.aload_n 0, 1) := by decide +kernel
theorem dX6_init_61 : decode cX6_init 61 = .ok (.bipush 100, 2) := by decide +kernel
theorem dX6_init_63 : decode cX6_init 63 = .ok (.newarray .int, 2) := by decide +kernel
theorem dX6_init_65 : decode cX6_init 65 = .ok (.putfield 31, 3) := by decide +kernel
theorem dX6_init_68 : decode cX6_init 68 = .ok (.aload_n 0, 1) := by decide +kernel
theorem dX6_init_69 : decode cX6_init 69 = .ok (.bipush 100, 2) := by decide +kernel
theorem dX6_init_71 : decode cX6_init 71 = .ok (.newarray .boolean, 2) := by decide +kernel
theorem dX6_init_73 : decode cX6_init 73 = .ok (.putfield 34, 3) := by decide +kernel
theorem dX6_init_76 : decode cX6_init 76 = .ok (.aload_n 0, 1) := by decide +kernel
theorem dX6_init_77 : decode cX6_init 77 = .ok (.bipush 100, 2) := by decide +kernel
theorem dX6_init_79 : decode cX6_init 79 = .ok (.newarray .int, 2) := by decide +kernel
theorem dX6_init_81 : decode cX6_init 81 = .ok (.putfield 38, 3) := by decide +kernel
theorem dX6_init_84 : decode cX6_init 84 = .ok (.aload_n 0, 1) := by decide +kernel
theorem dX6_init_85 : decode cX6_init 85 = .ok (.sipush 1200, 3) := by decide +kernel
theorem dX6_init_88 : decode cX6_init 88 = .ok (.newarray .int, 2) := by decide +kernel
theorem dX6_init_90 : decode cX6_init 90 = .ok (.putfield 41, 3) := by decide +kernel
theorem dX6_init_93 : decode cX6_init 93 = .ok (.aload_n 0, 1) := by decide +kernel
theorem dX6_init_94 : decode cX6_init 94 = .ok (.sipush 600, 3) := by decide +kernel
theorem dX6_init_97 : decode cX6_init 97 = .ok (.newarray .int, 2) := by decide +kernel
theorem dX6_init_99 : decode cX6_init 99 = .ok (.putfield 44, 3) := by decide +kernel
theorem dX6_init_102 : decode cX6_init 102 = .ok (.aload_n 0, 1) := by decide +kernel
theorem dX6_init_103 : decode cX6_init 103 = .ok (.sipush 600, 3) := by decide +kernel
theorem dX6_init_106 : decode cX6_init 106 = .ok (.newarray .int, 2) := by decide +kernel
theorem dX6_init_108 : decode cX6_init 108 = .ok (.putfield 47, 3) := by decide +kernel
theorem dX6_init_111 : decode cX6_init 111 = .ok (.aload_n 0, 1) := by decide +kernel
theorem dX6_init_112 : decode cX6_init 112 = .ok (.sipush 600, 3) := by decide +kernel
theorem dX6_init_115 : decode cX6_init 115 = .ok (.newarray .int, 2) := by decide +kernel
theorem dX6_init_117 : decode cX6_init 117 = .ok (.putfield 50, 3) := by decide +kernel
theorem dX6_init_120 : decode cX6_init 120 = .ok (.aload_n 0, 1) := by decide +kernel
theorem dX6_init_121 : decode cX6_init 121 = .ok (.sipush 600, 3) := by decide +kernel
theorem dX6_init_124 : decode cX6_init 124 = .ok (.newarray .int, 2) := by decide +kernel
theorem dX6_init_126 : decode cX6_init 126 = .ok (.putfield 53, 3) := by decide +kernel
theorem dX6_init_129 : decode cX6_init 129 = .ok (.aload_n 0, 1) := by decide +kernel
theorem dX6_init_130 : decode cX6_init 130 = .ok (.bipush 18, 2) := by decide +kernel
theorem dX6_init_132 : decode cX6_init 132 = .ok (.newarray .int, 2) := by decide +kernel
theorem dX6_init_134 : decode cX6_init 134 = .ok (.putfield 56, 3) := by decide +kernel
theorem dX6_init_137 : decode cX6_init 137 = .ok (.return_, 1) := by decide +kernel
theorem dX6_thrown_0 : decode cX6_thrown 0 = .ok (.aload_n 0, 1) := by decide +kernel
theorem dX6_thrown_1 : decode cX6_thrown 1 = .ok (.getfield 59, 3) := by decide +kernel
theorem dX6_thrown_4 : decode cX6_thrown 4 = .ok (.ireturn, 1) := by decide +kernel
theorem dX6_can_0 : decode cX6_can 0 = .ok (.aload_n 0, 1) := by decide +kernel
theorem dX6_can_1 : decode cX6_can 1 = .ok (.iload_n 1, 1) := by decide +kernel
theorem dX6_can_2 : decode cX6_can 2 = .ok (.putfield 59, 3) := by decide +kernel
theorem dX6_can_5 : decode cX6_can 5 = .ok (.iload_n 1, 1) := by decide +kernel
theorem dX6_can_6 : decode cX6_can 6 = .ok (.ifCond .ne 7, 3) := by decide +kernel
theorem dX6_can_9 : decode cX6_can 9 = .ok (.iconst 1, 1) := by decide +kernel
theorem dX6_can_10 : decode cX6_can 10 = .ok (.goto 4, 3) := by decide +kernel
theorem dX6_can_13 : decode cX6_can 13 = .ok (.iconst 0, 1) := by decide +kernel
theorem dX6_can_14 : decode cX6_can 14 = .ok (.ireturn, 1) := by decide +kernel
theorem dX6_isIn_0 : decode cX6_isIn 0 = .ok (.iload_n 0, 1) := by decide +kernel
theorem dX6_isIn_1 : decode cX6_isIn 1 = .ok (.iload_n 1, 1) := by decide +kernel
theorem dX6_isIn_2 : decode cX6_isIn 2 = .ok (.if_icmp .lt 12, 3) := by decide +kernel
theorem dX6_isIn_5 : decode cX6_isIn 5 = .ok (.iload_n 0, 1) := by decide +kernel
theorem dX6_isIn_6 : decode cX6_isIn 6 = .ok (.iload_n 2, 1) := by decide +kernel
theorem dX6_isIn_7 : decode cX6_isIn 7 = .ok (.if_icmp .gt 7, 3) := by decide +kernel
theorem dX6_isIn_10 : decode cX6_isIn 10 = .ok (.iconst 1, 1) := by decide +kernel
theorem dX6_isIn_11 : decode cX6_isIn 11 = .ok (.goto 4, 3) := by decide +kernel
theorem dX6_isIn_14 : decode cX6_isIn 14 = .ok (.iconst 0, 1) := by decide +kernel
theorem dX6_isIn_15 : decode cX6_isIn 15 = .ok (.ireturn, 1) := by decide +kernel
set_option maxRecDepth 20000 in
theorem ggX6_isPlayer_X6_isIn : GoodIn wsX6_isPlayer wsX6_isIn := goodIn_r _ [5] (by decide +kernel) (by decide +kernel)
set_option maxRecDepth 20000 in
theorem gX6_isPlayer_X6_isIn : GoodIn wsX6_isPlayer (va_wsS RX6 66 yX6_isIn wsX6_isIn) := goodIn_app (goodIn_of _ (by decide +kernel)) ggX6_isPlayer_X6_isIn
theorem dX6_isPlayer_0 : decode cX6_isPlayer 0 = .ok (.iload_n 1, 1) := by decide +kernel
theorem dX6_isPlayer_1 : decode cX6_isPlayer 1 = .ok (.iconst 0, 1) := by decide +kernel
theorem dX6_isPlayer_2 : decode cX6_isPlayer 2 = .ok (.aload_n 0, 1) := by decide +kernel
theorem dX6_isPlayer_3 : decode cX6_isPlayer 3 = .ok (.getfield 63, 3) := by decide +kernel
theorem dX6_isPlayer_6 : decode cX6_isPlayer 6 = .ok (.iconst 1, 1) := by decide +kernel
theorem dX6_isPlayer_7 : decode cX6_isPlayer 7 = .ok (.isub, 1) := by decide +kernel
theorem dX6_isPlayer_8 : decode cX6_isPlayer 8 = .ok (.invokestatic 66, 3) := by decide +kernel
theorem dX6_isPlayer_11 : decode cX6_isPlayer 11 = .ok (.ireturn, 1) := by decide +kernel
set_option maxRecDepth 20000 in
theorem ggX6_isParty_X6_isIn : GoodIn wsX6_isParty wsX6_isIn := goodIn_r _ [5] (by decide +kernel) (by decide +kernel)
set_option maxRecDepth 20000 in
theorem gX6_isParty_X6_isIn : GoodIn wsX6_isParty (va_wsS RX6 66 yX6_isIn wsX6_isIn) := goodIn_app (goodIn_of _ (by decide +kernel)) ggX6_isParty_X6_isIn
theorem dX6_isParty_0 : decode cX6_isParty 0 = .ok (.iload_n 1, 1) := by decide +kernel
theorem dX6_isParty_1 : decode cX6_isParty 1 = .ok (.iconst 0, 1) := by decide +kernel
theorem dX6_isParty_2 : decode cX6_isParty 2 = .ok (.aload_n 0, 1) := by decide +kernel
theorem dX6_isParty_3 : decode cX6_isParty 3 = .ok (.getfield 70, 3) := by decide +kernel
theorem dX6_isParty_6 : decode cX6_isParty 6 = .ok (.iconst 1, 1) := by decide +kernel
theorem dX6_isParty_7 : decode cX6_isParty 7 = .ok (.isub, 1) := by decide +kernel
theorem dX6_isParty_8 : decode cX6_isParty 8 = .ok (.invokestatic 66, 3) := by decide +kernel
theorem dX6_isParty_11 : decode cX6_isParty 11 = .ok (.ireturn, 1) := by decide +kernel
set_option maxRecDepth 20000 in
theorem ggX6_isMatch_X6_isIn : GoodIn wsX6_isMatch wsX6_isIn := goodIn_r _ [5] (by decide +kernel) (by decide +kernel)
set_option maxRecDepth 20000 in
theorem gX6_isMatch_X6_isIn : GoodIn wsX6_isMatch (va_wsS RX6 66 yX6_isIn wsX6_isIn) := goodIn_app (goodIn_of _ (by decide +kernel)) ggX6_isMatch_X6_isIn
theorem dX6_isMatch_0 : decode cX6_isMatch 0 = .ok (.iload_n 1, 1) := by decide +kernel
theorem dX6_isMatch_1 : decode cX6_isMatch 1 = .ok (.iconst 0, 1) := by decide +kernel
theorem dX6_isMatch_2 : decode cX6_isMatch 2 = .ok (.aload_n 0, 1) := by decide +kernel
theorem dX6_isMatch_3 : decode cX6_isMatch 3 = .ok (.getfield 73, 3) := by decide +kernel
theorem dX6_isMatch_6 : decode cX6_isMatch 6 = .ok (.iconst 1, 1) := by decide +kernel
theorem dX6_isMatch_7 : decode cX6_isMatch 7 = .ok (.isub, 1) := by decide +kernel
theorem dX6_isMatch_8 : decode cX6_isMatch 8 = .ok (.invokestatic 66, 3) := by decide +kernel
theorem dX6_isMatch_11 : decode cX6_isMatch 11 = .ok (.ireturn, 1) := by decide +kernel
theorem dX6_has_0 : decode cX6_has 0 = .ok (.iload_n 0, 1) := by decide +kernel
theorem dX6_has_1 : decode cX6_has 1 = .ok (.iload_n 1, 1) := by decide +kernel
theorem dX6_has_2 : decode cX6_has 2 = .ok (.ishr, 1) := by decide +kernel
theorem dX6_has_3 : decode cX6_has 3 = .ok (.iconst 1, 1) := by decide +kernel
theorem dX6_has_4 : decode cX6_has 4 = .ok (.iand, 1) := by decide +kernel
theorem dX6_has_5 : decode cX6_has 5 = .ok (.iconst 1, 1) := by decide +kernel
theorem dX6_has_6 : decode cX6_has 6 = .ok (.if_icmp .ne 7, 3) := by decide +kernel
theorem dX6_has_9 : decode cX6_has 9 = .ok (.iconst 1, 1) := by decide +kernel
theorem dX6_has_10 : decode cX6_has 10 = .ok (.goto 4, 3) := by decide +kernel
theorem dX6_has_13 : decode cX6_has 13 = .ok (.iconst 0, 1) := by decide +kernel
theorem dX6_has_14 : decode cX6_has 14 = .ok (.ireturn, 1) := by decide +kernel
theorem dX6_size_0 : decode cX6_size 0 = .ok (.iconst 0, 1) := by decide +kernel
theorem dX6_size_1 : decode cX6_size 1 = .ok (.istore_n 1, 1) := by decide +kernel
theorem dX6_size_2 : decode cX6_size 2 = .ok (.iconst 0, 1) := by decide +kernel
theorem dX6_size_3 : decode cX6_size 3 = .ok (.istore_n 2, 1) := by decide +kernel
theorem dX6_size_4 : decode cX6_size 4 = .ok (.iload_n 2, 1) := by decide +kernel
theorem dX6_size_5 : decode cX6_size 5 = .ok (.bipush 18, 2) := by decide +kernel
theorem dX6_size_7 : decode cX6_size 7 = .ok (.if_icmp .ge 17, 3) := by decide +kernel
theorem dX6_size_10 : decode cX6_size 10 = .ok (.iload_n 1, 1) := by decide +kernel
theorem dX6_size_11 : decode cX6_size 11 = .ok (.iload_n 0, 1) := by decide +kernel
theorem dX6_size_12 : decode cX6_size 12 = .ok (.iload_n 2, 1) := by decide +kernel
theorem dX6_size_13 : decode cX6_size 13 = .ok (.ishr, 1) := by decide +kernel
theorem dX6_size_14 : decode cX6_size 14 = .ok (.iconst 1, 1) := by decide +kernel
theorem dX6_size_15 : decode cX6_size 15 = .ok (.iand, 1) := by decide +kernel
theorem dX6_size_16 : decode cX6_size 16 = .ok (.iadd, 1) := by decide +kernel
theorem dX6_size_17 : decode cX6_size 17 = .ok (.istore_n 1, 1) := by decide +kernel
theorem dX6_size_18 : decode cX6_size 18 = .ok (.iinc 2 1, 3) := by decide +kernel
theorem dX6_size_21 : decode cX6_size 21 = .ok (.goto (-17), 3) := by decide +kernel
theorem dX6_size_24 : decode cX6_size 24 = .ok (.iload_n 1, 1) := by decide +kernel
theorem dX6_size_25 : decode cX6_size 25 = .ok (.ireturn, 1) := by decide +kernel
theorem dX6_down_0 : decode cX6_down 0 = .ok (.iload_n 0, 1) := by decide +kernel
theorem dX6_down_1 : decode cX6_down 1 = .ok (.ifCond .ge 9, 3) := by decide +kernel
theorem dX6_down_4 : decode cX6_down 4 = .ok (.iload_n 0, 1) := by decide +kernel
theorem dX6_down_5 : decode cX6_down 5 = .ok (.iload_n 1, 1) := by decide +kernel
theorem dX6_down_6 : decode cX6_down 6 = .ok (.irem, 1) := by decide +kernel
theorem dX6_down_7 : decode cX6_down 7 = .ok (.ifCond .ne 9, 3) := by decide +kernel
theorem dX6_down_10 : decode cX6_down 10 = .ok (.iload_n 0, 1) := by decide +kernel
theorem dX6_down_11 : decode cX6_down 11 = .ok (.iload_n 1, 1) := by decide +kernel
theorem dX6_down_12 : decode cX6_down 12 = .ok (.idiv, 1) := by decide +kernel
theorem dX6_down_13 : decode cX6_down 13 = .ok (.goto 8, 3) := by decide +kernel
theorem dX6_down_16 : decode cX6_down 16 = .ok (.iload_n 0, 1) := by decide +kernel
theorem dX6_down_17 : decode cX6_down 17 = .ok (.iload_n 1, 1) := by decide +kernel
theorem dX6_down_18 : decode cX6_down 18 = .ok (.idiv, 1) := by decide +kernel
theorem dX6_down_19 : decode cX6_down 19 = .ok (.iconst 1, 1) := by decide +kernel
theorem dX6_down_20 : decode cX6_down 20 = .ok (.isub, 1) := by decide +kernel
theorem dX6_down_21 : decode cX6_down 21 = .ok (.ireturn, 1) := by decide +kernel
set_option maxRecDepth 20000 in
theorem ggX6_addPlayer_X6_isIn : GoodIn wsX6_addPlayer wsX6_isIn := goodIn_r _ [8] (by decide +kernel) (by decide +kernel)
set_option maxRecDepth 20000 in
theorem gX6_addPlayer_X6_isIn : GoodIn wsX6_addPlayer (va_wsS RX6 66 yX6_isIn wsX6_isIn) := goodIn_app (goodIn_of _ (by decide +kernel)) ggX6_addPlayer_X6_isIn
set_option maxRecDepth 20000 in
theorem ggX6_addPlayer_X6_can : GoodIn wsX6_addPlayer wsX6_can := goodIn_r _ [12, 13, 14, 15, 16, 17, 18, 19, 20, 21, 22, 23, 24, 25, 26, 27, 28, 29, 30, 31, 32, 33, 34, 35, 36, 37] (by decide +kernel) (by decide +kernel)
set_option maxRecDepth 20000 in
theorem gX6_addPlayer_X6_can : GoodIn wsX6_addPlayer (wsV RX6 76 RX6 yX6_can wsX6_can) := goodIn_app (goodIn_of _ (by decide +kernel)) ggX6_addPlayer_X6_can
theorem dX6_addPlayer_0 : decode cX6_addPlayer 0 = .ok (.aload_n 0, 1) := by decide +kernel
theorem dX6_addPlayer_1 : decode cX6_addPlayer 1 = .ok (.iload_n 1, 1) := by decide +kernel
theorem dX6_addPlayer_2 : decode cX6_addPlayer 2 = .ok (.iconst 0, 1) := by decide +kernel
theorem dX6_addPlayer_3 : decode cX6_addPlayer 3 = .ok (.sipush 4000, 3) := by decide +kernel
theorem dX6_addPlayer_6 : decode cX6_addPlayer 6 = .ok (.invokestatic 66, 3) := by decide +kernel
theorem dX6_addPlayer_9 : decode cX6_addPlayer 9 = .ok (.ifCond .eq 13, 3) := by decide +kernel
theorem dX6_addPlayer_12 : decode cX6_addPlayer 12 = .ok (.iload_n 2, 1) := by decide +kernel
theorem dX6_addPlayer_13 : decode cX6_addPlayer 13 = .ok (.iconst 1, 1) := by decide +kernel
theorem dX6_addPlayer_14 : decode cX6_addPlayer 14 = .ok (.bipush 7, 2) := by decide +kernel
theorem dX6_addPlayer_16 : decode cX6_addPlayer 16 = .ok (.invokestatic 66, 3) := by decide +kernel
theorem dX6_addPlayer_19 : decode cX6_addPlayer 19 = .ok (.ifCond .ne 7, 3) := by decide +kernel
theorem dX6_addPlayer_22 : decode cX6_addPlayer 22 = .ok (.iconst 1, 1) := by decide +kernel
theorem dX6_addPlayer_23 : decode cX6_addPlayer 23 = .ok (.goto 17, 3) := by decide +kernel
theorem dX6_addPlayer_26 : decode cX6_addPlayer 26 = .ok (.aload_n 0, 1) := by decide +kernel
theorem dX6_addPlayer_27 : decode cX6_addPlayer 27 = .ok (.getfield 63, 3) := by decide +kernel
theorem dX6_addPlayer_30 : decode cX6_addPlayer 30 = .ok (.bipush 18, 2) := by decide +kernel
theorem dX6_addPlayer_32 : decode cX6_addPlayer 32 = .ok (.if_icmp .ne 7, 3) := by decide +kernel
theorem dX6_addPlayer_35 : decode cX6_addPlayer 35 = .ok (.iconst 2, 1) := by decide +kernel
theorem dX6_addPlayer_36 : decode cX6_addPlayer 36 = .ok (.goto 4, 3) := by decide +kernel
theorem dX6_addPlayer_39 : decode cX6_addPlayer 39 = .ok (.iconst 0, 1) := by decide +kernel
theorem dX6_addPlayer_40 : decode cX6_addPlayer 40 = .ok (.invokevirtual 76, 3) := by decide +kernel
theorem dX6_addPlayer_43 : decode cX6_addPlayer 43 = .ok (.ifCond .ne 5, 3) := by decide +kernel
theorem dX6_addPlayer_46 : decode cX6_addPlayer 46 = .ok (.iconst 0, 1) := by decide +kernel
theorem dX6_addPlayer_47 : decode cX6_addPlayer 47 = .ok (.ireturn, 1) := by decide +kernel
theorem dX6_addPlayer_48 : decode cX6_addPlayer 48 = .ok (.aload_n 0, 1) := by decide +kernel
theorem dX6_addPlayer_49 : decode cX6_addPlayer 49 = .ok (.getfield 7, 3) := by decide +kernel
theorem dX6_addPlayer_52 : decode cX6_addPlayer 52 = .ok (.aload_n 0, 1) := by decide +kernel
theorem dX6_addPlayer_53 : decode cX6_addPlayer 53 = .ok (.getfield 63, 3) := by decide +kernel
theorem dX6_addPlayer_56 : decode cX6_addPlayer 56 = .ok (.iload_n 1, 1) := by decide +kernel
theorem dX6_addPlayer_57 : decode cX6_addPlayer 57 = .ok (.iastore, 1) := by decide +kernel
theorem dX6_addPlayer_58 : decode cX6_addPlayer 58 = .ok (.aload_n 0, 1) := by decide +kernel
theorem dX6_addPlayer_59 : decode cX6_addPlayer 59 = .ok (.getfield 16, 3) := by decide +kernel
theorem dX6_addPlayer_62 : decode cX6_addPlayer 62 = .ok (.aload_n 0, 1) := by decide +kernel
theorem dX6_addPlayer_63 : decode cX6_addPlayer 63 = .ok (.getfield 63, 3) := by decide +kernel
theorem dX6_addPlayer_66 : decode cX6_addPlayer 66 = .ok (.iload_n 2, 1) := by decide +kernel
theorem dX6_addPlayer_67 : decode cX6_addPlayer 67 = .ok (.iastore, 1) := by decide +kernel
theorem dX6_addPlayer_68 : decode cX6_addPlayer 68 = .ok (.aload_n 0, 1) := by decide +kernel
theorem dX6_addPlayer_69 : decode cX6_addPlayer 69 = .ok (.getfield 13, 3) := by decide +kernel
theorem dX6_addPlayer_72 : decode cX6_addPlayer 72 = .ok (.aload_n 0, 1) := by decide +kernel
theorem dX6_addPlayer_73 : decode cX6_addPlayer 73 = .ok (.getfield 63, 3) := by decide +kernel
theorem dX6_addPlayer_76 : decode cX6_addPlayer 76 = .ok (.sipush 350, 3) := by decide +kernel
theorem dX6_addPlayer_79 : decode cX6_addPlayer 79 = .ok (.iastore, 1) := by decide +kernel
theorem dX6_addPlayer_80 : decode cX6_addPlayer 80 = .ok (.aload_n 0, 1) := by decide +kernel
theorem dX6_addPlayer_81 : decode cX6_addPlayer 81 = .ok (.dup, 1) := by decide +kernel
theorem dX6_addPlayer_82 : decode cX6_addPlayer 82 = .ok (.getfield 63, 3) := by decide +kernel
theorem dX6_addPlayer_85 : decode cX6_addPlayer 85 = .ok (.iconst 1, 1) := by decide +kernel
theorem dX6_addPlayer_86 : decode cX6_addPlayer 86 = .ok (.iadd, 1) := by decide +kernel
theorem dX6_addPlayer_87 : decode cX6_addPlayer 87 = .ok (.putfield 63, 3) := by decide +kernel
theorem dX6_addPlayer_90 : decode cX6_addPlayer 90 = .ok (.aload_n 0, 1) := by decide +kernel
theorem dX6_addPlayer_91 : decode cX6_addPlayer 91 = .ok (.getfield 63, 3) := by decide +kernel
theorem dX6_addPlayer_94 : decode cX6_addPlayer 94 = .ok (.iconst 1, 1) := by decide +kernel
theorem dX6_addPlayer_95 : decode cX6_addPlayer 95 = .ok (.isub, 1) := by decide +kernel
theorem dX6_addPlayer_96 : decode cX6_addPlayer 96 = .ok (.ireturn, 1) := by decide +kernel
set_option maxRecDepth 20000 in
theorem ggX6_become_X6_has : GoodIn wsX6_become wsX6_has := goodIn_r _ [6] (by decide +kernel) (by decide +kernel)
set_option maxRecDepth 20000 in
theorem gX6_become_X6_has : GoodIn wsX6_become (va_wsS RX6 80 yX6_has wsX6_has) := goodIn_app (goodIn_of _ (by decide +kernel)) ggX6_become_X6_has
theorem dX6_become_0 : decode cX6_become 0 = .ok (.iconst 0, 1) := by decide +kernel
theorem dX6_become_1 : decode cX6_become 1 = .ok (.istore_n 3, 1) := by decide +kernel
theorem dX6_become_2 : decode cX6_become 2 = .ok (.iload_n 3, 1) := by decide +kernel
theorem dX6_become_3 : decode cX6_become 3 = .ok (.aload_n 0, 1) := by decide +kernel
theorem dX6_become_4 : decode cX6_become 4 = .ok (.getfield 63, 3) := by decide +kernel
theorem dX6_become_7 : decode cX6_become 7 = .ok (.if_icmp .ge 33, 3) := by decide +kernel
theorem dX6_become_10 : decode cX6_become 10 = .ok (.aload_n 0, 1) := by decide +kernel
theorem dX6_become_11 : decode cX6_become 11 = .ok (.getfield 22, 3) := by decide +kernel
theorem dX6_become_14 : decode cX6_become 14 = .ok (.iload_n 3, 1) := by decide +kernel
theorem dX6_become_15 : decode cX6_become 15 = .ok (.iload_n 1, 1) := by decide +kernel
theorem dX6_become_16 : decode cX6_become 16 = .ok (.iload_n 3, 1) := by decide +kernel
theorem dX6_become_17 : decode cX6_become 17 = .ok (.invokestatic 80, 3) := by decide +kernel
theorem dX6_become_20 : decode cX6_become 20 = .ok (.ifCond .eq 7, 3) := by decide +kernel
theorem dX6_become_23 : decode cX6_become 23 = .ok (.iload_n 2, 1) := by decide +kernel
theorem dX6_become_24 : decode cX6_become 24 = .ok (.goto 9, 3) := by decide +kernel
theorem dX6_become_27 : decode cX6_become 27 = .ok (.aload_n 0, 1) := by decide +kernel
theorem dX6_become_28 : decode cX6_become 28 = .ok (.getfield 22, 3) := by decide +kernel
theorem dX6_become_31 : decode cX6_become 31 = .ok (.iload_n 3, 1) := by decide +kernel
theorem dX6_become_32 : decode cX6_become 32 = .ok (.iaload, 1) := by decide +kernel
theorem dX6_become_33 : decode cX6_become 33 = .ok (.iastore, 1) := by decide +kernel
theorem dX6_become_34 : decode cX6_become 34 = .ok (.iinc 3 1, 3) := by decide +kernel
theorem dX6_become_37 : decode cX6_become 37 = .ok (.goto (-35), 3) := by decide +kernel
theorem dX6_become_40 : decode cX6_become 40 = .ok (.return_, 1) := by decide +kernel
set_option maxRecDepth 20000 in
theorem ggX6_queue_X6_size : GoodIn wsX6_queue wsX6_size := goodIn_r _ [13] (by decide +kernel) (by decide +kernel)
set_option maxRecDepth 20000 in
theorem gX6_queue_X6_size : GoodIn wsX6_queue (va_wsS RX6 84 yX6_size wsX6_size) := goodIn_app (goodIn_of _ (by decide +kernel)) ggX6_queue_X6_size
set_option maxRecDepth 20000 in
theorem ggX6_queue_X6_has : GoodIn wsX6_queue wsX6_has := goodIn_r _ [16] (by decide +kernel) (by decide +kernel)
set_option maxRecDepth 20000 in
theorem gX6_queue_X6_has : GoodIn wsX6_queue (va_wsS RX6 80 yX6_has wsX6_has) := goodIn_app (goodIn_of _ (by decide +kernel)) ggX6_queue_X6_has
set_option maxRecDepth 20000 in
theorem ggX6_queue_X6_can : GoodIn wsX6_queue wsX6_can := goodIn_r _ [20, 21, 26, 27, 28, 29, 30, 31, 32, 33, 34, 35, 36, 37, 38, 39, 40, 41, 42, 43, 44, 45, 46, 47, 48, 49] (by decide +kernel) (by decide +kernel)
set_option maxRecDepth 20000 in
theorem gX6_queue_X6_can : GoodIn wsX6_queue (wsV RX6 76 RX6 yX6_can wsX6_can) := goodIn_app (goodIn_of _ (by decide +kernel)) ggX6_queue_X6_can
set_option maxRecDepth 20000 in
theorem ggX6_queue_X6_become : GoodIn wsX6_queue wsX6_become := goodIn_r _ [25, 1, 3, 14, 15, 12, 16, 26, 27, 28, 29, 30, 31, 32, 33, 34, 35, 36, 37, 38, 39, 40, 41, 42, 43, 44, 45, 46, 47, 48, 49] (by decide +kernel) (by decide +kernel)
set_option maxRecDepth 20000 in
theorem gX6_queue_X6_become : GoodIn wsX6_queue (wsV RX6 91 RX6 yX6_become wsX6_become) := goodIn_app (goodIn_of _ (by decide +kernel)) ggX6_queue_X6_become
theorem dX6_queue_0 : decode cX6_queue 0 = .ok (.iload_n 1, 1) := by decide +kernel
theorem dX6_queue_1 : decode cX6_queue 1 = .ok (.ifCond .le 25, 3) := by decide +kernel
theorem dX6_queue_4 : decode cX6_queue 4 = .ok (.iload_n 1, 1) := by decide +kernel
theorem dX6_queue_5 : decode cX6_queue 5 = .ok (.iconst 1, 1) := by decide +kernel
theorem dX6_queue_6 : decode cX6_queue 6 = .ok (.aload_n 0, 1) := by decide +kernel
theorem dX6_queue_7 : decode cX6_queue 7 = .ok (.getfield 63, 3) := by decide +kernel
theorem dX6_queue_10 : decode cX6_queue 10 = .ok (.ishl, 1) := by decide +kernel
theorem dX6_queue_11 : decode cX6_queue 11 = .ok (.if_icmp .ge 15, 3) := by decide +kernel
theorem dX6_queue_14 : decode cX6_queue 14 = .ok (.iload_n 1, 1) := by decide +kernel
theorem dX6_queue_15 : decode cX6_queue 15 = .ok (.invokestatic 84, 3) := by decide +kernel
theorem dX6_queue_18 : decode cX6_queue 18 = .ok (.iconst 3, 1) := by decide +kernel
theorem dX6_queue_19 : decode cX6_queue 19 = .ok (.if_icmp .gt 7, 3) := by decide +kernel
theorem dX6_queue_22 : decode cX6_queue 22 = .ok (.iconst 1, 1) := by decide +kernel
theorem dX6_queue_23 : decode cX6_queue 23 = .ok (.goto 4, 3) := by decide +kernel
theorem dX6_queue_26 : decode cX6_queue 26 = .ok (.iconst 0, 1) := by decide +kernel
theorem dX6_queue_27 : decode cX6_queue 27 = .ok (.istore_n 2, 1) := by decide +kernel
theorem dX6_queue_28 : decode cX6_queue 28 = .ok (.aload_n 0, 1) := by decide +kernel
theorem dX6_queue_29 : decode cX6_queue 29 = .ok (.getfield 70, 3) := by decide +kernel
theorem dX6_queue_32 : decode cX6_queue 32 = .ok (.bipush 100, 2) := by decide +kernel
theorem dX6_queue_34 : decode cX6_queue 34 = .ok (.if_icmp .ge 7, 3) := by decide +kernel
theorem dX6_queue_37 : decode cX6_queue 37 = .ok (.iconst 1, 1) := by decide +kernel
theorem dX6_queue_38 : decode cX6_queue 38 = .ok (.goto 4, 3) := by decide +kernel
theorem dX6_queue_41 : decode cX6_queue 41 = .ok (.iconst 0, 1) := by decide +kernel
theorem dX6_queue_42 : decode cX6_queue 42 = .ok (.istore_n 3, 1) := by decide +kernel
theorem dX6_queue_43 : decode cX6_queue 43 = .ok (.iconst 0, 1) := by decide +kernel
theorem dX6_queue_44 : decode cX6_queue 44 = .ok (.istore 4, 2) := by decide +kernel
theorem dX6_queue_46 : decode cX6_queue 46 = .ok (.iload 4, 2) := by decide +kernel
theorem dX6_queue_48 : decode cX6_queue 48 = .ok (.aload_n 0, 1) := by decide +kernel
theorem dX6_queue_49 : decode cX6_queue 49 = .ok (.getfield 63, 3) := by decide +kernel
theorem dX6_queue_52 : decode cX6_queue 52 = .ok (.if_icmp .ge 52, 3) := by decide +kernel
theorem dX6_queue_55 : decode cX6_queue 55 = .ok (.iload_n 3, 1) := by decide +kernel
theorem dX6_queue_56 : decode cX6_queue 56 = .ok (.ifCond .eq 40, 3) := by decide +kernel
theorem dX6_queue_59 : decode cX6_queue 59 = .ok (.iload_n 1, 1) := by decide +kernel
theorem dX6_queue_60 : decode cX6_queue 60 = .ok (.iload 4, 2) := by decide +kernel
theorem dX6_queue_62 : decode cX6_queue 62 = .ok (.invokestatic 80, 3) := by decide +kernel
theorem dX6_queue_65 : decode cX6_queue 65 = .ok (.ifCond .eq 27, 3) := by decide +kernel
theorem dX6_queue_68 : decode cX6_queue 68 = .ok (.aload_n 0, 1) := by decide +kernel
theorem dX6_queue_69 : decode cX6_queue 69 = .ok (.getfield 22, 3) := by decide +kernel
theorem dX6_queue_72 : decode cX6_queue 72 = .ok (.iload 4, 2) := by decide +kernel
theorem dX6_queue_74 : decode cX6_queue 74 = .ok (.iaload, 1) := by decide +kernel
theorem dX6_queue_75 : decode cX6_queue 75 = .ok (.ifCond .ne 21, 3) := by decide +kernel
theorem dX6_queue_78 : decode cX6_queue 78 = .ok (.aload_n 0, 1) := by decide +kernel
theorem dX6_queue_79 : decode cX6_queue 79 = .ok (.getfield 25, 3) := by decide +kernel
theorem dX6_queue_82 : decode cX6_queue 82 = .ok (.iload 4, 2) := by decide +kernel
theorem dX6_queue_84 : decode cX6_queue 84 = .ok (.iaload, 1) := by decide +kernel
theorem dX6_queue_85 : decode cX6_queue 85 = .ok (.aload_n 0, 1) := by decide +kernel
theorem dX6_queue_86 : decode cX6_queue 86 = .ok (.getfield 88, 3) := by decide +kernel
theorem dX6_queue_89 : decode cX6_queue 89 = .ok (.if_icmp .gt 7, 3) := by decide +kernel
theorem dX6_queue_92 : decode cX6_queue 92 = .ok (.iconst 1, 1) := by decide +kernel
theorem dX6_queue_93 : decode cX6_queue 93 = .ok (.goto 4, 3) := by decide +kernel
theorem dX6_queue_96 : decode cX6_queue 96 = .ok (.iconst 0, 1) := by decide +kernel
theorem dX6_queue_97 : decode cX6_queue 97 = .ok (.istore_n 3, 1) := by decide +kernel
theorem dX6_queue_98 : decode cX6_queue 98 = .ok (.iinc 4 1, 3) := by decide +kernel
theorem dX6_queue_101 : decode cX6_queue 101 = .ok (.goto (-55), 3) := by decide +kernel
theorem dX6_queue_104 : decode cX6_queue 104 = .ok (.aload_n 0, 1) := by decide +kernel
theorem dX6_queue_105 : decode cX6_queue 105 = .ok (.iload_n 2, 1) := by decide +kernel
theorem dX6_queue_106 : decode cX6_queue 106 = .ok (.ifCond .ne 7, 3) := by decide +kernel
theorem dX6_queue_109 : decode cX6_queue 109 = .ok (.iconst 1, 1) := by decide +kernel
theorem dX6_queue_110 : decode cX6_queue 110 = .ok (.goto 12, 3) := by decide +kernel
theorem dX6_queue_113 : decode cX6_queue 113 = .ok (.iload_n 3, 1) := by decide +kernel
theorem dX6_queue_114 : decode cX6_queue 114 = .ok (.ifCond .eq 7, 3) := by decide +kernel
theorem dX6_queue_117 : decode cX6_queue 117 = .ok (.iconst 0, 1) := by decide +kernel
theorem dX6_queue_118 : decode cX6_queue 118 = .ok (.goto 4, 3) := by decide +kernel
theorem dX6_queue_121 : decode cX6_queue 121 = .ok (.iconst 2, 1) := by decide +kernel
theorem dX6_queue_122 : decode cX6_queue 122 = .ok (.invokevirtual 76, 3) := by decide +kernel
theorem dX6_queue_125 : decode cX6_queue 125 = .ok (.ifCond .ne 5, 3) := by decide +kernel
theorem dX6_queue_128 : decode cX6_queue 128 = .ok (.iconst 0, 1) := by decide +kernel
theorem dX6_queue_129 : decode cX6_queue 129 = .ok (.ireturn, 1) := by decide +kernel
theorem dX6_queue_130 : decode cX6_queue 130 = .ok (.aload_n 0, 1) := by decide +kernel
theorem dX6_queue_131 : decode cX6_queue 131 = .ok (.getfield 28, 3) := by decide +kernel
theorem dX6_queue_134 : decode cX6_queue 134 = .ok (.aload_n 0, 1) := by decide +kernel
theorem dX6_queue_135 : decode cX6_queue 135 = .ok (.getfield 70, 3) := by decide +kernel
theorem dX6_queue_138 : decode cX6_queue 138 = .ok (.iload_n 1, 1) := by decide +kernel
theorem dX6_queue_139 : decode cX6_queue 139 = .ok (.iastore, 1) := by decide +kernel
theorem dX6_queue_140 : decode cX6_queue 140 = .ok (.aload_n 0, 1) := by decide +kernel
theorem dX6_queue_141 : decode cX6_queue 141 = .ok (.getfield 31, 3) := by decide +kernel
theorem dX6_queue_144 : decode cX6_queue 144 = .ok (.aload_n 0, 1) := by decide +kernel
theorem dX6_queue_145 : decode cX6_queue 145 = .ok (.getfield 70, 3) := by decide +kernel
theorem dX6_queue_148 : decode cX6_queue 148 = .ok (.aload_n 0, 1) := by decide +kernel
theorem dX6_queue_149 : decode cX6_queue 149 = .ok (.getfield 88, 3) := by decide +kernel
theorem dX6_queue_152 : decode cX6_queue 152 = .ok (.iastore, 1) := by decide +kernel
theorem dX6_queue_153 : decode cX6_queue 153 = .ok (.aload_n 0, 1) := by decide +kernel
theorem dX6_queue_154 : decode cX6_queue 154 = .ok (.getfield 34, 3) := by decide +kernel
theorem dX6_queue_157 : decode cX6_queue 157 = .ok (.aload_n 0, 1) := by decide +kernel
theorem dX6_queue_158 : decode cX6_queue 158 = .ok (.getfield 70, 3) := by decide +kernel
theorem dX6_queue_161 : decode cX6_queue 161 = .ok (.iconst 1, 1) := by decide +kernel
theorem dX6_queue_162 : decode cX6_queue 162 = .ok (.bastore, 1) := by decide +kernel
theorem dX6_queue_163 : decode cX6_queue 163 = .ok (.aload_n 0, 1) := by decide +kernel
theorem dX6_queue_164 : decode cX6_queue 164 = .ok (.getfield 38, 3) := by decide +kernel
theorem dX6_queue_167 : decode cX6_queue 167 = .ok (.aload_n 0, 1) := by decide +kernel
theorem dX6_queue_168 : decode cX6_queue 168 = .ok (.getfield 70, 3) := by decide +kernel
theorem dX6_queue_171 : decode cX6_queue 171 = .ok (.iconst (-1), 1) := by decide +kernel
theorem dX6_queue_172 : decode cX6_queue 172 = .ok (.iastore, 1) := by decide +kernel
theorem dX6_queue_173 : decode cX6_queue 173 = .ok (.aload_n 0, 1) := by decide +kernel
theorem dX6_queue_174 : decode cX6_queue 174 = .ok (.iload_n 1, 1) := by decide +kernel
theorem dX6_queue_175 : decode cX6_queue 175 = .ok (.iconst 1, 1) := by decide +kernel
theorem dX6_queue_176 : decode cX6_queue 176 = .ok (.invokevirtual 91, 3) := by decide +kernel
theorem dX6_queue_179 : decode cX6_queue 179 = .ok (.aload_n 0, 1) := by decide +kernel
theorem dX6_queue_180 : decode cX6_queue 180 = .ok (.dup, 1) := by decide +kernel
theorem dX6_queue_181 : decode cX6_queue 181 = .ok (.getfield 70, 3) := by decide +kernel
theorem dX6_queue_184 : decode cX6_queue 184 = .ok (.iconst 1, 1) := by decide +kernel
theorem dX6_queue_185 : decode cX6_queue 185 = .ok (.iadd, 1) := by decide +kernel
theorem dX6_queue_186 : decode cX6_queue 186 = .ok (.putfield 70, 3) := by decide +kernel
theorem dX6_queue_189 : decode cX6_queue 189 = .ok (.aload_n 0, 1) := by decide +kernel
theorem dX6_queue_190 : decode cX6_queue 190 = .ok (.getfield 70, 3) := by decide +kernel
theorem dX6_queue_193 : decode cX6_queue 193 = .ok (.iconst 1, 1) := by decide +kernel
theorem dX6_queue_194 : decode cX6_queue 194 = .ok (.isub, 1) := by decide +kernel
theorem dX6_queue_195 : decode cX6_queue 195 = .ok (.ireturn, 1) := by decide +kernel
theorem dX6_queues_0 : decode cX6_queues 0 = .ok (.aload_n 0, 1) := by decide +kernel
theorem dX6_queues_1 : decode cX6_queues 1 = .ok (.getfield 34, 3) := by decide +kernel
theorem dX6_queues_4 : decode cX6_queues 4 = .ok (.iload_n 1, 1) := by decide +kernel
theorem dX6_queues_5 : decode cX6_queues 5 = .ok (.baload, 1) := by decide +kernel
theorem dX6_queues_6 : decode cX6_queues 6 = .ok (.ireturn, 1) := by decide +kernel
set_option maxRecDepth 20000 in
theorem ggX6_leave_X6_isParty : GoodIn wsX6_leave wsX6_isParty := goodIn_r _ [9, 10, 11, 12, 8, 13, 32, 33, 34, 35, 36, 37, 38, 39, 40, 41, 42, 43, 44, 45, 46, 47, 48, 49, 50, 51, 52, 53, 54, 55] (by decide +kernel) (by decide +kernel)
set_option maxRecDepth 20000 in
theorem gX6_leave_X6_isParty : GoodIn wsX6_leave (wsV RX6 95 RX6 yX6_isParty wsX6_isParty) := goodIn_app (goodIn_of _ (by decide +kernel)) ggX6_leave_X6_isParty
set_option maxRecDepth 20000 in
theorem ggX6_leave_X6_queues : GoodIn wsX6_leave wsX6_queues := goodIn_r _ [17, 1, 32, 33, 34, 35, 36, 37, 38, 39, 40, 41, 42, 43, 44, 45, 46, 47, 48, 49, 50, 51, 52, 53, 54, 55] (by decide +kernel) (by decide +kernel)
set_option maxRecDepth 20000 in
theorem gX6_leave_X6_queues : GoodIn wsX6_leave (wsV RX6 98 RX6 yX6_queues wsX6_queues) := goodIn_app (goodIn_of _ (by decide +kernel)) ggX6_leave_X6_queues
set_option maxRecDepth 20000 in
theorem ggX6_leave_X6_can : GoodIn wsX6_leave wsX6_can := goodIn_r _ [21, 22, 32, 33, 34, 35, 36, 37, 38, 39, 40, 41, 42, 43, 44, 45, 46, 47, 48, 49, 50, 51, 52, 53, 54, 55] (by decide +kernel) (by decide +kernel)
set_option maxRecDepth 20000 in
theorem gX6_leave_X6_can : GoodIn wsX6_leave (wsV RX6 76 RX6 yX6_can wsX6_can) := goodIn_app (goodIn_of _ (by decide +kernel)) ggX6_leave_X6_can
set_option maxRecDepth 20000 in
theorem ggX6_leave_X6_become : GoodIn wsX6_leave wsX6_become := goodIn_r _ [26, 27, 28, 29, 30, 8, 31, 32, 33, 34, 35, 36, 37, 38, 39, 40, 41, 42, 43, 44, 45, 46, 47, 48, 49, 50, 51, 52, 53, 54, 55] (by decide +kernel) (by decide +kernel)
set_option maxRecDepth 20000 in
theorem gX6_leave_X6_become : GoodIn wsX6_leave (wsV RX6 91 RX6 yX6_become wsX6_become) := goodIn_app (goodIn_of _ (by decide +kernel)) ggX6_leave_X6_become
theorem dX6_leave_0 : decode cX6_leave 0 = .ok (.aload_n 0, 1) := by decide +kernel
theorem dX6_leave_1 : decode cX6_leave 1 = .ok (.aload_n 0, 1) := by decide +kernel
theorem dX6_leave_2 : decode cX6_leave 2 = .ok (.iload_n 1, 1) := by decide +kernel
theorem dX6_leave_3 : decode cX6_leave 3 = .ok (.invokevirtual 95, 3) := by decide +kernel
theorem dX6_leave_6 : decode cX6_leave 6 = .ok (.ifCond .ne 7, 3) := by decide +kernel
theorem dX6_leave_9 : decode cX6_leave 9 = .ok (.iconst 1, 1) := by decide +kernel
theorem dX6_leave_10 : decode cX6_leave 10 = .ok (.goto 16, 3) := by decide +kernel
theorem dX6_leave_13 : decode cX6_leave 13 = .ok (.aload_n 0, 1) := by decide +kernel
theorem dX6_leave_14 : decode cX6_leave 14 = .ok (.iload_n 1, 1) := by decide +kernel
theorem dX6_leave_15 : decode cX6_leave 15 = .ok (.invokevirtual 98, 3) := by decide +kernel
theorem dX6_leave_18 : decode cX6_leave 18 = .ok (.ifCond .eq 7, 3) := by decide +kernel
theorem dX6_leave_21 : decode cX6_leave 21 = .ok (.iconst 0, 1) := by decide +kernel
theorem dX6_leave_22 : decode cX6_leave 22 = .ok (.goto 4, 3) := by decide +kernel
theorem dX6_leave_25 : decode cX6_leave 25 = .ok (.iconst 2, 1) := by decide +kernel
theorem dX6_leave_26 : decode cX6_leave 26 = .ok (.invokevirtual 76, 3) := by decide +kernel
theorem dX6_leave_29 : decode cX6_leave 29 = .ok (.ifCond .ne 5, 3) := by decide +kernel
theorem dX6_leave_32 : decode cX6_leave 32 = .ok (.iconst 0, 1) := by decide +kernel
theorem dX6_leave_33 : decode cX6_leave 33 = .ok (.ireturn, 1) := by decide +kernel
theorem dX6_leave_34 : decode cX6_leave 34 = .ok (.aload_n 0, 1) := by decide +kernel
theorem dX6_leave_35 : decode cX6_leave 35 = .ok (.getfield 34, 3) := by decide +kernel
theorem dX6_leave_38 : decode cX6_leave 38 = .ok (.iload_n 1, 1) := by decide +kernel
theorem dX6_leave_39 : decode cX6_leave 39 = .ok (.iconst 0, 1) := by decide +kernel
theorem dX6_leave_40 : decode cX6_leave 40 = .ok (.bastore, 1) := by decide +kernel
theorem dX6_leave_41 : decode cX6_leave 41 = .ok (.aload_n 0, 1) := by decide +kernel
theorem dX6_leave_42 : decode cX6_leave 42 = .ok (.aload_n 0, 1) := by decide +kernel
theorem dX6_leave_43 : decode cX6_leave 43 = .ok (.getfield 28, 3) := by decide +kernel
theorem dX6_leave_46 : decode cX6_leave 46 = .ok (.iload_n 1, 1) := by decide +kernel
theorem dX6_leave_47 : decode cX6_leave 47 = .ok (.iaload, 1) := by decide +kernel
theorem dX6_leave_48 : decode cX6_leave 48 = .ok (.iconst 0, 1) := by decide +kernel
theorem dX6_leave_49 : decode cX6_leave 49 = .ok (.invokevirtual 91, 3) := by decide +kernel
theorem dX6_leave_52 : decode cX6_leave 52 = .ok (.aload_n 0, 1) := by decide +kernel
theorem dX6_leave_53 : decode cX6_leave 53 = .ok (.getfield 88, 3) := by decide +kernel
theorem dX6_leave_56 : decode cX6_leave 56 = .ok (.aload_n 0, 1) := by decide +kernel
theorem dX6_leave_57 : decode cX6_leave 57 = .ok (.getfield 31, 3) := by decide +kernel
theorem dX6_leave_60 : decode cX6_leave 60 = .ok (.iload_n 1, 1) := by decide +kernel
theorem dX6_leave_61 : decode cX6_leave 61 = .ok (.iaload, 1) := by decide +kernel
theorem dX6_leave_62 : decode cX6_leave 62 = .ok (.isub, 1) := by decide +kernel
theorem dX6_leave_63 : decode cX6_leave 63 = .ok (.ireturn, 1) := by decide +kernel
theorem dX6_players_0 : decode cX6_players 0 = .ok (.aload_n 0, 1) := by decide +kernel
theorem dX6_players_1 : decode cX6_players 1 = .ok (.iconst 0, 1) := by decide +kernel
theorem dX6_players_2 : decode cX6_players 2 = .ok (.putfield 59, 3) := by decide +kernel
theorem dX6_players_5 : decode cX6_players 5 = .ok (.aload_n 0, 1) := by decide +kernel
theorem dX6_players_6 : decode cX6_players 6 = .ok (.getfield 63, 3) := by decide +kernel
theorem dX6_players_9 : decode cX6_players 9 = .ok (.ireturn, 1) := by decide +kernel
set_option maxRecDepth 20000 in
theorem ggX6_isAsked_X6_isPlayer : GoodIn wsX6_isAsked wsX6_isPlayer := goodIn_r _ [5, 6, 7, 8, 4, 9, 15, 16, 17, 18, 19, 20, 21, 22, 23, 24, 25, 26, 27, 28, 29, 30, 31, 32, 33, 34, 35, 36, 37, 38] (by decide +kernel) (by decide +kernel)
set_option maxRecDepth 20000 in
theorem gX6_isAsked_X6_isPlayer : GoodIn wsX6_isAsked (wsV RX6 101 RX6 yX6_isPlayer wsX6_isPlayer) := goodIn_app (goodIn_of _ (by decide +kernel)) ggX6_isAsked_X6_isPlayer
set_option maxRecDepth 20000 in
theorem ggX6_isAsked_X6_can : GoodIn wsX6_isAsked wsX6_can := goodIn_r _ [13, 14, 15, 16, 17, 18, 19, 20, 21, 22, 23, 24, 25, 26, 27, 28, 29, 30, 31, 32, 33, 34, 35, 36, 37, 38] (by decide +kernel) (by decide +kernel)
set_option maxRecDepth 20000 in
theorem gX6_isAsked_X6_can : GoodIn wsX6_isAsked (wsV RX6 76 RX6 yX6_can wsX6_can) := goodIn_app (goodIn_of _ (by decide +kernel)) ggX6_isAsked_X6_can
theorem dX6_isAsked_0 : decode cX6_isAsked 0 = .ok (.aload_n 0, 1) := by decide +kernel
theorem dX6_isAsked_1 : decode cX6_isAsked 1 = .ok (.aload_n 0, 1) := by decide +kernel
theorem dX6_isAsked_2 : decode cX6_isAsked 2 = .ok (.iload_n 1, 1) := by decide +kernel
theorem dX6_isAsked_3 : decode cX6_isAsked 3 = .ok (.invokevirtual 101, 3) := by decide +kernel
theorem dX6_isAsked_6 : decode cX6_isAsked 6 = .ok (.ifCond .eq 7, 3) := by decide +kernel
theorem dX6_isAsked_9 : decode cX6_isAsked 9 = .ok (.iconst 0, 1) := by decide +kernel
theorem dX6_isAsked_10 : decode cX6_isAsked 10 = .ok (.goto 4, 3) := by decide +kernel
theorem dX6_isAsked_13 : decode cX6_isAsked 13 = .ok (.iconst 1, 1) := by decide +kernel
theorem dX6_isAsked_14 : decode cX6_isAsked 14 = .ok (.invokevirtual 76, 3) := by decide +kernel
theorem dX6_isAsked_17 : decode cX6_isAsked 17 = .ok (.ireturn, 1) := by decide +kernel
set_option maxRecDepth 20000 in
theorem ggX6_state_X6_isAsked : GoodIn wsX6_state wsX6_isAsked := goodIn_r _ [6, 7, 8, 9, 5, 10, 11, 12, 13, 14, 15, 16, 17, 18, 19, 20, 21, 22, 23, 24, 25, 26, 27, 28, 29, 30, 31, 32, 33, 34, 35, 36, 37, 38, 39, 40, 41, 42, 43] (by decide +kernel) (by decide +kernel)
set_option maxRecDepth 20000 in
theorem gX6_state_X6_isAsked : GoodIn wsX6_state (wsV RX6 104 RX6 yX6_isAsked wsX6_isAsked) := goodIn_app (goodIn_of _ (by decide +kernel)) ggX6_state_X6_isAsked
theorem dX6_state_0 : decode cX6_state 0 = .ok (.aload_n 0, 1) := by decide +kernel
theorem dX6_state_1 : decode cX6_state 1 = .ok (.iload_n 1, 1) := by decide +kernel
theorem dX6_state_2 : decode cX6_state 2 = .ok (.invokevirtual 104, 3) := by decide +kernel
theorem dX6_state_5 : decode cX6_state 5 = .ok (.ifCond .eq 12, 3) := by decide +kernel
theorem dX6_state_8 : decode cX6_state 8 = .ok (.aload_n 0, 1) := by decide +kernel
theorem dX6_state_9 : decode cX6_state 9 = .ok (.getfield 22, 3) := by decide +kernel
theorem dX6_state_12 : decode cX6_state 12 = .ok (.iload_n 1, 1) := by decide +kernel
theorem dX6_state_13 : decode cX6_state 13 = .ok (.iaload, 1) := by decide +kernel
theorem dX6_state_14 : decode cX6_state 14 = .ok (.goto 4, 3) := by decide +kernel
theorem dX6_state_17 : decode cX6_state 17 = .ok (.iconst 0, 1) := by decide +kernel
theorem dX6_state_18 : decode cX6_state 18 = .ok (.ireturn, 1) := by decide +kernel
set_option maxRecDepth 20000 in
theorem ggX6_rating_X6_isAsked : GoodIn wsX6_rating wsX6_isAsked := goodIn_r _ [6, 7, 8, 9, 5, 10, 11, 12, 13, 14, 15, 16, 17, 18, 19, 20, 21, 22, 23, 24, 25, 26, 27, 28, 29, 30, 31, 32, 33, 34, 35, 36, 37, 38, 39, 40, 41, 42, 43] (by decide +kernel) (by decide +kernel)
set_option maxRecDepth 20000 in
theorem gX6_rating_X6_isAsked : GoodIn wsX6_rating (wsV RX6 104 RX6 yX6_isAsked wsX6_isAsked) := goodIn_app (goodIn_of _ (by decide +kernel)) ggX6_rating_X6_isAsked
theorem dX6_rating_0 : decode cX6_rating 0 = .ok (.aload_n 0, 1) := by decide +kernel
theorem dX6_rating_1 : decode cX6_rating 1 = .ok (.iload_n 1, 1) := by decide +kernel
theorem dX6_rating_2 : decode cX6_rating 2 = .ok (.invokevirtual 104, 3) := by decide +kernel
theorem dX6_rating_5 : decode cX6_rating 5 = .ok (.ifCond .eq 12, 3) := by decide +kernel
theorem dX6_rating_8 : decode cX6_rating 8 = .ok (.aload_n 0, 1) := by decide +kernel
theorem dX6_rating_9 : decode cX6_rating 9 = .ok (.getfield 7, 3) := by decide +kernel
theorem dX6_rating_12 : decode cX6_rating 12 = .ok (.iload_n 1, 1) := by decide +kernel
theorem dX6_rating_13 : decode cX6_rating 13 = .ok (.iaload, 1) := by decide +kernel
theorem dX6_rating_14 : decode cX6_rating 14 = .ok (.goto 4, 3) := by decide +kernel
theorem dX6_rating_17 : decode cX6_rating 17 = .ok (.iconst 0, 1) := by decide +kernel
theorem dX6_rating_18 : decode cX6_rating 18 = .ok (.ireturn, 1) := by decide +kernel
set_option maxRecDepth 20000 in
theorem ggX6_uncertainty_X6_isAsked : GoodIn wsX6_uncertainty wsX6_isAsked := goodIn_r _ [6, 7, 8, 9, 5, 10, 11, 12, 13, 14, 15, 16, 17, 18, 19, 20, 21, 22, 23, 24, 25, 26, 27, 28, 29, 30, 31, 32, 33, 34, 35, 36, 37, 38, 39, 40, 41, 42, 43] (by decide +kernel) (by decide +kernel)
set_option maxRecDepth 20000 in
theorem gX6_uncertainty_X6_isAsked : GoodIn wsX6_uncertainty (wsV RX6 104 RX6 yX6_isAsked wsX6_isAsked) := goodIn_app (goodIn_of _ (by decide +kernel)) ggX6_uncertainty_X6_isAsked
theorem dX6_uncertainty_0 : decode cX6_uncertainty 0 = .ok (.aload_n 0, 1) := by decide +kernel
theorem dX6_uncertainty_1 : decode cX6_uncertainty 1 = .ok (.iload_n 1, 1) := by decide +kernel
theorem dX6_uncertainty_2 : decode cX6_uncertainty 2 = .ok (.invokevirtual 104, 3) := by decide +kernel
theorem dX6_uncertainty_5 : decode cX6_uncertainty 5 = .ok (.ifCond .eq 12, 3) := by decide +kernel
theorem dX6_uncertainty_8 : decode cX6_uncertainty 8 = .ok (.aload_n 0, 1) := by decide +kernel
theorem dX6_uncertainty_9 : decode cX6_uncertainty 9 = .ok (.getfield 13, 3) := by decide +kernel
theorem dX6_uncertainty_12 : decode cX6_uncertainty 12 = .ok (.iload_n 1, 1) := by decide +kernel
theorem dX6_uncertainty_13 : decode cX6_uncertainty 13 = .ok (.iaload, 1) := by decide +kernel
theorem dX6_uncertainty_14 : decode cX6_uncertainty 14 = .ok (.goto 4, 3) := by decide +kernel
theorem dX6_uncertainty_17 : decode cX6_uncertainty 17 = .ok (.iconst 0, 1) := by decide +kernel
theorem dX6_uncertainty_18 : decode cX6_uncertainty 18 = .ok (.ireturn, 1) := by decide +kernel
set_option maxRecDepth 20000 in
theorem ggX6_level_X6_isAsked : GoodIn wsX6_level wsX6_isAsked := goodIn_r _ [6, 7, 8, 9, 5, 10, 11, 12, 13, 14, 15, 16, 17, 18, 19, 20, 21, 22, 23, 24, 25, 26, 27, 28, 29, 30, 31, 32, 33, 34, 35, 36, 37, 38, 39, 40, 41, 42, 43] (by decide +kernel) (by decide +kernel)
set_option maxRecDepth 20000 in
theorem gX6_level_X6_isAsked : GoodIn wsX6_level (wsV RX6 104 RX6 yX6_isAsked wsX6_isAsked) := goodIn_app (goodIn_of _ (by decide +kernel)) ggX6_level_X6_isAsked
theorem dX6_level_0 : decode cX6_level 0 = .ok (.aload_n 0, 1) := by decide +kernel
theorem dX6_level_1 : decode cX6_level 1 = .ok (.iload_n 1, 1) := by decide +kernel
theorem dX6_level_2 : decode cX6_level 2 = .ok (.invokevirtual 104, 3) := by decide +kernel
theorem dX6_level_5 : decode cX6_level 5 = .ok (.ifCond .eq 12, 3) := by decide +kernel
theorem dX6_level_8 : decode cX6_level 8 = .ok (.aload_n 0, 1) := by decide +kernel
theorem dX6_level_9 : decode cX6_level 9 = .ok (.getfield 19, 3) := by decide +kernel
theorem dX6_level_12 : decode cX6_level 12 = .ok (.iload_n 1, 1) := by decide +kernel
theorem dX6_level_13 : decode cX6_level 13 = .ok (.iaload, 1) := by decide +kernel
theorem dX6_level_14 : decode cX6_level 14 = .ok (.goto 4, 3) := by decide +kernel
theorem dX6_level_17 : decode cX6_level 17 = .ok (.iconst 0, 1) := by decide +kernel
theorem dX6_level_18 : decode cX6_level 18 = .ok (.ireturn, 1) := by decide +kernel
set_option maxRecDepth 20000 in
theorem ggX6_barred_X6_isAsked : GoodIn wsX6_barred wsX6_isAsked := goodIn_r _ [7, 8, 9, 10, 6, 11, 12, 13, 14, 15, 16, 17, 18, 19, 20, 21, 22, 23, 24, 25, 26, 27, 28, 29, 30, 31, 32, 33, 34, 35, 36, 37, 38, 39, 40, 41, 42, 43, 44] (by decide +kernel) (by decide +kernel)
set_option maxRecDepth 20000 in
theorem gX6_barred_X6_isAsked : GoodIn wsX6_barred (wsV RX6 104 RX6 yX6_isAsked wsX6_isAsked) := goodIn_app (goodIn_of _ (by decide +kernel)) ggX6_barred_X6_isAsked
theorem dX6_barred_0 : decode cX6_barred 0 = .ok (.aload_n 0, 1) := by decide +kernel
theorem dX6_barred_1 : decode cX6_barred 1 = .ok (.iload_n 1, 1) := by decide +kernel
theorem dX6_barred_2 : decode cX6_barred 2 = .ok (.invokevirtual 104, 3) := by decide +kernel
theorem dX6_barred_5 : decode cX6_barred 5 = .ok (.ifCond .eq 30, 3) := by decide +kernel
theorem dX6_barred_8 : decode cX6_barred 8 = .ok (.aload_n 0, 1) := by decide +kernel
theorem dX6_barred_9 : decode cX6_barred 9 = .ok (.getfield 25, 3) := by decide +kernel
theorem dX6_barred_12 : decode cX6_barred 12 = .ok (.iload_n 1, 1) := by decide +kernel
theorem dX6_barred_13 : decode cX6_barred 13 = .ok (.iaload, 1) := by decide +kernel
theorem dX6_barred_14 : decode cX6_barred 14 = .ok (.aload_n 0, 1) := by decide +kernel
theorem dX6_barred_15 : decode cX6_barred 15 = .ok (.getfield 88, 3) := by decide +kernel
theorem dX6_barred_18 : decode cX6_barred 18 = .ok (.if_icmp .le 17, 3) := by decide +kernel
theorem dX6_barred_21 : decode cX6_barred 21 = .ok (.aload_n 0, 1) := by decide +kernel
theorem dX6_barred_22 : decode cX6_barred 22 = .ok (.getfield 25, 3) := by decide +kernel
theorem dX6_barred_25 : decode cX6_barred 25 = .ok (.iload_n 1, 1) := by decide +kernel
theorem dX6_barred_26 : decode cX6_barred 26 = .ok (.iaload, 1) := by decide +kernel
theorem dX6_barred_27 : decode cX6_barred 27 = .ok (.aload_n 0, 1) := by decide +kernel
theorem dX6_barred_28 : decode cX6_barred 28 = .ok (.getfield 88, 3) := by decide +kernel
theorem dX6_barred_31 : decode cX6_barred 31 = .ok (.isub, 1) := by decide +kernel
theorem dX6_barred_32 : decode cX6_barred 32 = .ok (.goto 4, 3) := by decide +kernel
theorem dX6_barred_35 : decode cX6_barred 35 = .ok (.iconst 0, 1) := by decide +kernel
theorem dX6_barred_36 : decode cX6_barred 36 = .ok (.ireturn, 1) := by decide +kernel
theorem dX6_queued_0 : decode cX6_queued 0 = .ok (.aload_n 0, 1) := by decide +kernel
theorem dX6_queued_1 : decode cX6_queued 1 = .ok (.iconst 0, 1) := by decide +kernel
theorem dX6_queued_2 : decode cX6_queued 2 = .ok (.putfield 59, 3) := by decide +kernel
theorem dX6_queued_5 : decode cX6_queued 5 = .ok (.iconst 0, 1) := by decide +kernel
theorem dX6_queued_6 : decode cX6_queued 6 = .ok (.istore_n 1, 1) := by decide +kernel
theorem dX6_queued_7 : decode cX6_queued 7 = .ok (.iconst 0, 1) := by decide +kernel
theorem dX6_queued_8 : decode cX6_queued 8 = .ok (.istore_n 2, 1) := by decide +kernel
theorem dX6_queued_9 : decode cX6_queued 9 = .ok (.iload_n 2, 1) := by decide +kernel
theorem dX6_queued_10 : decode cX6_queued 10 = .ok (.aload_n 0, 1) := by decide +kernel
theorem dX6_queued_11 : decode cX6_queued 11 = .ok (.getfield 70, 3) := by decide +kernel
theorem dX6_queued_14 : decode cX6_queued 14 = .ok (.if_icmp .ge 26, 3) := by decide +kernel
theorem dX6_queued_17 : decode cX6_queued 17 = .ok (.iload_n 1, 1) := by decide +kernel
theorem dX6_queued_18 : decode cX6_queued 18 = .ok (.aload_n 0, 1) := by decide +kernel
theorem dX6_queued_19 : decode cX6_queued 19 = .ok (.getfield 34, 3) := by decide +kernel
theorem dX6_queued_22 : decode cX6_queued 22 = .ok (.iload_n 2, 1) := by decide +kernel
theorem dX6_queued_23 : decode cX6_queued 23 = .ok (.baload, 1) := by decide +kernel
theorem dX6_queued_24 : decode cX6_queued 24 = .ok (.ifCond .eq 7, 3) := by decide +kernel
theorem dX6_queued_27 : decode cX6_queued 27 = .ok (.iconst 1, 1) := by decide +kernel
theorem dX6_queued_28 : decode cX6_queued 28 = .ok (.goto 4, 3) := by decide +kernel
theorem dX6_queued_31 : decode cX6_queued 31 = .ok (.iconst 0, 1) := by decide +kernel
theorem dX6_queued_32 : decode cX6_queued 32 = .ok (.iadd, 1) := by decide +kernel
theorem dX6_queued_33 : decode cX6_queued 33 = .ok (.istore_n 1, 1) := by decide +kernel
theorem dX6_queued_34 : decode cX6_queued 34 = .ok (.iinc 2 1, 3) := by decide +kernel
theorem dX6_queued_37 : decode cX6_queued 37 = .ok (.goto (-28), 3) := by decide +kernel
theorem dX6_queued_40 : decode cX6_queued 40 = .ok (.iload_n 1, 1) := by decide +kernel
theorem dX6_queued_41 : decode cX6_queued 41 = .ok (.ireturn, 1) := by decide +kernel
set_option maxRecDepth 20000 in
theorem ggX6_sumOf_X6_has : GoodIn wsX6_sumOf wsX6_has := goodIn_r _ [6] (by decide +kernel) (by decide +kernel)
set_option maxRecDepth 20000 in
theorem gX6_sumOf_X6_has : GoodIn wsX6_sumOf (va_wsS RX6 80 yX6_has wsX6_has) := goodIn_app (goodIn_of _ (by decide +kernel)) ggX6_sumOf_X6_has
theorem dX6_sumOf_0 : decode cX6_sumOf 0 = .ok (.iconst 0, 1) := by decide +kernel
theorem dX6_sumOf_1 : decode cX6_sumOf 1 = .ok (.istore_n 2, 1) := by decide +kernel
theorem dX6_sumOf_2 : decode cX6_sumOf 2 = .ok (.iconst 0, 1) := by decide +kernel
theorem dX6_sumOf_3 : decode cX6_sumOf 3 = .ok (.istore_n 3, 1) := by decide +kernel
theorem dX6_sumOf_4 : decode cX6_sumOf 4 = .ok (.iload_n 3, 1) := by decide +kernel
theorem dX6_sumOf_5 : decode cX6_sumOf 5 = .ok (.aload_n 0, 1) := by decide +kernel
theorem dX6_sumOf_6 : decode cX6_sumOf 6 = .ok (.getfield 63, 3) := by decide +kernel
theorem dX6_sumOf_9 : decode cX6_sumOf 9 = .ok (.if_icmp .ge 30, 3) := by decide +kernel
theorem dX6_sumOf_12 : decode cX6_sumOf 12 = .ok (.iload_n 2, 1) := by decide +kernel
theorem dX6_sumOf_13 : decode cX6_sumOf 13 = .ok (.iload_n 1, 1) := by decide +kernel
theorem dX6_sumOf_14 : decode cX6_sumOf 14 = .ok (.iload_n 3, 1) := by decide +kernel
theorem dX6_sumOf_15 : decode cX6_sumOf 15 = .ok (.invokestatic 80, 3) := by decide +kernel
theorem dX6_sumOf_18 : decode cX6_sumOf 18 = .ok (.ifCond .eq 12, 3) := by decide +kernel
theorem dX6_sumOf_21 : decode cX6_sumOf 21 = .ok (.aload_n 0, 1) := by decide +kernel
theorem dX6_sumOf_22 : decode cX6_sumOf 22 = .ok (.getfield 7, 3) := by decide +kernel
theorem dX6_sumOf_25 : decode cX6_sumOf 25 = .ok (.iload_n 3, 1) := by decide +kernel
theorem dX6_sumOf_26 : decode cX6_sumOf 26 = .ok (.iaload, 1) := by decide +kernel
theorem dX6_sumOf_27 : decode cX6_sumOf 27 = .ok (.goto 4, 3) := by decide +kernel
theorem dX6_sumOf_30 : decode cX6_sumOf 30 = .ok (.iconst 0, 1) := by decide +kernel
theorem dX6_sumOf_31 : decode cX6_sumOf 31 = .ok (.iadd, 1) := by decide +kernel
theorem dX6_sumOf_32 : decode cX6_sumOf 32 = .ok (.istore_n 2, 1) := by decide +kernel
theorem dX6_sumOf_33 : decode cX6_sumOf 33 = .ok (.iinc 3 1, 3) := by decide +kernel
theorem dX6_sumOf_36 : decode cX6_sumOf 36 = .ok (.goto (-32), 3) := by decide +kernel
theorem dX6_sumOf_39 : decode cX6_sumOf 39 = .ok (.iload_n 2, 1) := by decide +kernel
theorem dX6_sumOf_40 : decode cX6_sumOf 40 = .ok (.ireturn, 1) := by decide +kernel
theorem dX6_windowOf_0 : decode cX6_windowOf 0 = .ok (.bipush 100, 2) := by decide +kernel
theorem dX6_windowOf_2 : decode cX6_windowOf 2 = .ok (.bipush 20, 2) := by decide +kernel
theorem dX6_windowOf_4 : decode cX6_windowOf 4 = .ok (.aload_n 0, 1) := by decide +kernel
theorem dX6_windowOf_5 : decode cX6_windowOf 5 = .ok (.getfield 88, 3) := by decide +kernel
theorem dX6_windowOf_8 : decode cX6_windowOf 8 = .ok (.aload_n 0, 1) := by decide +kernel
theorem dX6_windowOf_9 : decode cX6_windowOf 9 = .ok (.getfield 31, 3) := by decide +kernel
theorem dX6_windowOf_12 : decode cX6_windowOf 12 = .ok (.iload_n 1, 1) := by decide +kernel
theorem dX6_windowOf_13 : decode cX6_windowOf 13 = .ok (.iaload, 1) := by decide +kernel
theorem dX6_windowOf_14 : decode cX6_windowOf 14 = .ok (.isub, 1) := by decide +kernel
theorem dX6_windowOf_15 : decode cX6_windowOf 15 = .ok (.imul, 1) := by decide +kernel
theorem dX6_windowOf_16 : decode cX6_windowOf 16 = .ok (.iadd, 1) := by decide +kernel
theorem dX6_windowOf_17 : decode cX6_windowOf 17 = .ok (.ireturn, 1) := by decide +kernel
set_option maxRecDepth 20000 in
theorem ggX6_fits_X6_sumOf : GoodIn wsX6_fits wsX6_sumOf := goodIn_r _ [6, 7, 8, 9, 10, 5, 11, 21, 22, 23, 24, 25, 26, 27, 28, 29, 30, 31, 32, 33, 34, 35, 36, 37, 38, 39, 40, 41, 42, 43, 44] (by decide +kernel) (by decide +kernel)
set_option maxRecDepth 20000 in
theorem gX6_fits_X6_sumOf : GoodIn wsX6_fits (wsV RX6 107 RX6 yX6_sumOf wsX6_sumOf) := goodIn_app (goodIn_of _ (by decide +kernel)) ggX6_fits_X6_sumOf
set_option maxRecDepth 20000 in
theorem ggX6_fits_X6_size : GoodIn wsX6_fits wsX6_size := goodIn_r _ [14] (by decide +kernel) (by decide +kernel)
set_option maxRecDepth 20000 in
theorem gX6_fits_X6_size : GoodIn wsX6_fits (va_wsS RX6 84 yX6_size wsX6_size) := goodIn_app (goodIn_of _ (by decide +kernel)) ggX6_fits_X6_size
set_option maxRecDepth 20000 in
theorem ggX6_fits_X6_windowOf : GoodIn wsX6_fits wsX6_windowOf := goodIn_r _ [18, 19, 20, 21, 22, 23, 24, 25, 26, 27, 28, 29, 30, 31, 32, 33, 34, 35, 36, 37, 38, 39, 40, 41, 42, 43, 44] (by decide +kernel) (by decide +kernel)
set_option maxRecDepth 20000 in
theorem gX6_fits_X6_windowOf : GoodIn wsX6_fits (wsV RX6 110 RX6 yX6_windowOf wsX6_windowOf) := goodIn_app (goodIn_of _ (by decide +kernel)) ggX6_fits_X6_windowOf
theorem dX6_fits_0 : decode cX6_fits 0 = .ok (.aload_n 0, 1) := by decide +kernel
theorem dX6_fits_1 : decode cX6_fits 1 = .ok (.aload_n 0, 1) := by decide +kernel
theorem dX6_fits_2 : decode cX6_fits 2 = .ok (.getfield 28, 3) := by decide +kernel
theorem dX6_fits_5 : decode cX6_fits 5 = .ok (.iload_n 1, 1) := by decide +kernel
theorem dX6_fits_6 : decode cX6_fits 6 = .ok (.iaload, 1) := by decide +kernel
theorem dX6_fits_7 : decode cX6_fits 7 = .ok (.invokevirtual 107, 3) := by decide +kernel
theorem dX6_fits_10 : decode cX6_fits 10 = .ok (.aload_n 0, 1) := by decide +kernel
theorem dX6_fits_11 : decode cX6_fits 11 = .ok (.getfield 28, 3) := by decide +kernel
theorem dX6_fits_14 : decode cX6_fits 14 = .ok (.iload_n 1, 1) := by decide +kernel
theorem dX6_fits_15 : decode cX6_fits 15 = .ok (.iaload, 1) := by decide +kernel
theorem dX6_fits_16 : decode cX6_fits 16 = .ok (.invokestatic 84, 3) := by decide +kernel
theorem dX6_fits_19 : decode cX6_fits 19 = .ok (.idiv, 1) := by decide +kernel
theorem dX6_fits_20 : decode cX6_fits 20 = .ok (.aload_n 0, 1) := by decide +kernel
theorem dX6_fits_21 : decode cX6_fits 21 = .ok (.aload_n 0, 1) := by decide +kernel
theorem dX6_fits_22 : decode cX6_fits 22 = .ok (.getfield 28, 3) := by decide +kernel
theorem dX6_fits_25 : decode cX6_fits 25 = .ok (.iload_n 2, 1) := by decide +kernel
theorem dX6_fits_26 : decode cX6_fits 26 = .ok (.iaload, 1) := by decide +kernel
theorem dX6_fits_27 : decode cX6_fits 27 = .ok (.invokevirtual 107, 3) := by decide +kernel
theorem dX6_fits_30 : decode cX6_fits 30 = .ok (.aload_n 0, 1) := by decide +kernel
theorem dX6_fits_31 : decode cX6_fits 31 = .ok (.getfield 28, 3) := by decide +kernel
theorem dX6_fits_34 : decode cX6_fits 34 = .ok (.iload_n 2, 1) := by decide +kernel
theorem dX6_fits_35 : decode cX6_fits 35 = .ok (.iaload, 1) := by decide +kernel
theorem dX6_fits_36 : decode cX6_fits 36 = .ok (.invokestatic 84, 3) := by decide +kernel
theorem dX6_fits_39 : decode cX6_fits 39 = .ok (.idiv, 1) := by decide +kernel
theorem dX6_fits_40 : decode cX6_fits 40 = .ok (.isub, 1) := by decide +kernel
theorem dX6_fits_41 : decode cX6_fits 41 = .ok (.istore_n 3, 1) := by decide +kernel
theorem dX6_fits_42 : decode cX6_fits 42 = .ok (.iload_n 3, 1) := by decide +kernel
theorem dX6_fits_43 : decode cX6_fits 43 = .ok (.ifCond .ge 8, 3) := by decide +kernel
theorem dX6_fits_46 : decode cX6_fits 46 = .ok (.iload_n 3, 1) := by decide +kernel
theorem dX6_fits_47 : decode cX6_fits 47 = .ok (.ineg, 1) := by decide +kernel
theorem dX6_fits_48 : decode cX6_fits 48 = .ok (.goto 4, 3) := by decide +kernel
theorem dX6_fits_51 : decode cX6_fits 51 = .ok (.iload_n 3, 1) := by decide +kernel
theorem dX6_fits_52 : decode cX6_fits 52 = .ok (.istore_n 3, 1) := by decide +kernel
theorem dX6_fits_53 : decode cX6_fits 53 = .ok (.iload_n 3, 1) := by decide +kernel
theorem dX6_fits_54 : decode cX6_fits 54 = .ok (.aload_n 0, 1) := by decide +kernel
theorem dX6_fits_55 : decode cX6_fits 55 = .ok (.iload_n 1, 1) := by decide +kernel
theorem dX6_fits_56 : decode cX6_fits 56 = .ok (.invokevirtual 110, 3) := by decide +kernel
theorem dX6_fits_59 : decode cX6_fits 59 = .ok (.if_icmp .gt 16, 3) := by decide +kernel
theorem dX6_fits_62 : decode cX6_fits 62 = .ok (.iload_n 3, 1) := by decide +kernel
theorem dX6_fits_63 : decode cX6_fits 63 = .ok (.aload_n 0, 1) := by decide +kernel
theorem dX6_fits_64 : decode cX6_fits 64 = .ok (.iload_n 2, 1) := by decide +kernel
theorem dX6_fits_65 : decode cX6_fits 65 = .ok (.invokevirtual 110, 3) := by decide +kernel
theorem dX6_fits_68 : decode cX6_fits 68 = .ok (.if_icmp .gt 7, 3) := by decide +kernel
theorem dX6_fits_71 : decode cX6_fits 71 = .ok (.iconst 1, 1) := by decide +kernel
theorem dX6_fits_72 : decode cX6_fits 72 = .ok (.goto 4, 3) := by decide +kernel
theorem dX6_fits_75 : decode cX6_fits 75 = .ok (.iconst 0, 1) := by decide +kernel
theorem dX6_fits_76 : decode cX6_fits 76 = .ok (.ireturn, 1) := by decide +kernel
set_option maxRecDepth 20000 in
theorem ggX6_window_X6_isParty : GoodIn wsX6_window wsX6_isParty := goodIn_r _ [5, 6, 7, 8, 4, 9, 26, 27, 28, 29, 30, 31, 32, 33, 34, 35, 36, 37, 38, 39, 40, 41, 42, 43, 44, 45, 46, 47, 48, 49] (by decide +kernel) (by decide +kernel)
set_option maxRecDepth 20000 in
theorem gX6_window_X6_isParty : GoodIn wsX6_window (wsV RX6 95 RX6 yX6_isParty wsX6_isParty) := goodIn_app (goodIn_of _ (by decide +kernel)) ggX6_window_X6_isParty
set_option maxRecDepth 20000 in
theorem ggX6_window_X6_queues : GoodIn wsX6_window wsX6_queues := goodIn_r _ [13, 14, 26, 27, 28, 29, 30, 31, 32, 33, 34, 35, 36, 37, 38, 39, 40, 41, 42, 43, 44, 45, 46, 47, 48, 49] (by decide +kernel) (by decide +kernel)
set_option maxRecDepth 20000 in
theorem gX6_window_X6_queues : GoodIn wsX6_window (wsV RX6 98 RX6 yX6_queues wsX6_queues) := goodIn_app (goodIn_of _ (by decide +kernel)) ggX6_window_X6_queues
set_option maxRecDepth 20000 in
theorem ggX6_window_X6_can : GoodIn wsX6_window wsX6_can := goodIn_r _ [18, 19, 26, 27, 28, 29, 30, 31, 32, 33, 34, 35, 36, 37, 38, 39, 40, 41, 42, 43, 44, 45, 46, 47, 48, 49] (by decide +kernel) (by decide +kernel)
set_option maxRecDepth 20000 in
theorem gX6_window_X6_can : GoodIn wsX6_window (wsV RX6 76 RX6 yX6_can wsX6_can) := goodIn_app (goodIn_of _ (by decide +kernel)) ggX6_window_X6_can
set_option maxRecDepth 20000 in
theorem ggX6_window_X6_windowOf : GoodIn wsX6_window wsX6_windowOf := goodIn_r _ [23, 24, 25, 26, 27, 28, 29, 30, 31, 32, 33, 34, 35, 36, 37, 38, 39, 40, 41, 42, 43, 44, 45, 46, 47, 48, 49] (by decide +kernel) (by decide +kernel)
set_option maxRecDepth 20000 in
theorem gX6_window_X6_windowOf : GoodIn wsX6_window (wsV RX6 110 RX6 yX6_windowOf wsX6_windowOf) := goodIn_app (goodIn_of _ (by decide +kernel)) ggX6_window_X6_windowOf
theorem dX6_window_0 : decode cX6_window 0 = .ok (.aload_n 0, 1) := by decide +kernel
theorem dX6_window_1 : decode cX6_window 1 = .ok (.aload_n 0, 1) := by decide +kernel
theorem dX6_window_2 : decode cX6_window 2 = .ok (.iload_n 1, 1) := by decide +kernel
theorem dX6_window_3 : decode cX6_window 3 = .ok (.invokevirtual 95, 3) := by decide +kernel
theorem dX6_window_6 : decode cX6_window 6 = .ok (.ifCond .ne 7, 3) := by decide +kernel
theorem dX6_window_9 : decode cX6_window 9 = .ok (.iconst 1, 1) := by decide +kernel
theorem dX6_window_10 : decode cX6_window 10 = .ok (.goto 16, 3) := by decide +kernel
theorem dX6_window_13 : decode cX6_window 13 = .ok (.aload_n 0, 1) := by decide +kernel
theorem dX6_window_14 : decode cX6_window 14 = .ok (.iload_n 1, 1) := by decide +kernel
theorem dX6_window_15 : decode cX6_window 15 = .ok (.invokevirtual 98, 3) := by decide +kernel
theorem dX6_window_18 : decode cX6_window 18 = .ok (.ifCond .eq 7, 3) := by decide +kernel
theorem dX6_window_21 : decode cX6_window 21 = .ok (.iconst 0, 1) := by decide +kernel
theorem dX6_window_22 : decode cX6_window 22 = .ok (.goto 4, 3) := by decide +kernel
theorem dX6_window_25 : decode cX6_window 25 = .ok (.iconst 2, 1) := by decide +kernel
theorem dX6_window_26 : decode cX6_window 26 = .ok (.invokevirtual 76, 3) := by decide +kernel
theorem dX6_window_29 : decode cX6_window 29 = .ok (.ifCond .eq 11, 3) := by decide +kernel
theorem dX6_window_32 : decode cX6_window 32 = .ok (.aload_n 0, 1) := by decide +kernel
theorem dX6_window_33 : decode cX6_window 33 = .ok (.iload_n 1, 1) := by decide +kernel
theorem dX6_window_34 : decode cX6_window 34 = .ok (.invokevirtual 110, 3) := by decide +kernel
theorem dX6_window_37 : decode cX6_window 37 = .ok (.goto 4, 3) := by decide +kernel
theorem dX6_window_40 : decode cX6_window 40 = .ok (.iconst 0, 1) := by decide +kernel
theorem dX6_window_41 : decode cX6_window 41 = .ok (.ireturn, 1) := by decide +kernel
set_option maxRecDepth 20000 in
theorem ggX6_fit_X6_isParty : GoodIn wsX6_fit wsX6_isParty := goodIn_r _ [5, 6, 7, 8, 4, 9, 43, 44, 45, 46, 47, 48, 49, 50, 51, 52, 53, 54, 55, 56, 57, 58, 59, 60, 61, 62, 63, 64, 65, 66] (by decide +kernel) (by decide +kernel)
set_option maxRecDepth 20000 in
theorem gX6_fit_X6_isParty : GoodIn wsX6_fit (wsV RX6 95 RX6 yX6_isParty wsX6_isParty) := goodIn_app (goodIn_of _ (by decide +kernel)) ggX6_fit_X6_isParty
set_option maxRecDepth 20000 in
theorem ggX6_fit_X6_queues : GoodIn wsX6_fit wsX6_queues := goodIn_r _ [13, 14, 43, 44, 45, 46, 47, 48, 49, 50, 51, 52, 53, 54, 55, 56, 57, 58, 59, 60, 61, 62, 63, 64, 65, 66] (by decide +kernel) (by decide +kernel)
set_option maxRecDepth 20000 in
theorem gX6_fit_X6_queues : GoodIn wsX6_fit (wsV RX6 98 RX6 yX6_queues wsX6_queues) := goodIn_app (goodIn_of _ (by decide +kernel)) ggX6_fit_X6_queues
set_option maxRecDepth 20000 in
theorem ggX6_fit_X6_can : GoodIn wsX6_fit wsX6_can := goodIn_r _ [18, 19, 43, 44, 45, 46, 47, 48, 49, 50, 51, 52, 53, 54, 55, 56, 57, 58, 59, 60, 61, 62, 63, 64, 65, 66] (by decide +kernel) (by decide +kernel)
set_option maxRecDepth 20000 in
theorem gX6_fit_X6_can : GoodIn wsX6_fit (wsV RX6 76 RX6 yX6_can wsX6_can) := goodIn_app (goodIn_of _ (by decide +kernel)) ggX6_fit_X6_can
set_option maxRecDepth 20000 in
theorem ggX6_fit_X6_fits : GoodIn wsX6_fit wsX6_fits := goodIn_r _ [23, 24, 25, 26, 27, 4, 28, 29, 30, 31, 32, 33, 34, 35, 36, 37, 38, 39, 40, 41, 42, 43, 44, 45, 46, 47, 48, 49, 50, 51, 52, 53, 54, 55, 56, 57, 58, 59, 60, 61, 62, 63, 64, 65, 66] (by decide +kernel) (by decide +kernel)
set_option maxRecDepth 20000 in
theorem gX6_fit_X6_fits : GoodIn wsX6_fit (wsV RX6 113 RX6 yX6_fits wsX6_fits) := goodIn_app (goodIn_of _ (by decide +kernel)) ggX6_fit_X6_fits
theorem dX6_fit_0 : decode cX6_fit 0 = .ok (.aload_n 0, 1) := by decide +kernel
theorem dX6_fit_1 : decode cX6_fit 1 = .ok (.iload_n 1, 1) := by decide +kernel
theorem dX6_fit_2 : decode cX6_fit 2 = .ok (.invokevirtual 95, 3) := by decide +kernel
theorem dX6_fit_5 : decode cX6_fit 5 = .ok (.ifCond .eq 15, 3) := by decide +kernel
theorem dX6_fit_8 : decode cX6_fit 8 = .ok (.aload_n 0, 1) := by decide +kernel
theorem dX6_fit_9 : decode cX6_fit 9 = .ok (.iload_n 2, 1) := by decide +kernel
theorem dX6_fit_10 : decode cX6_fit 10 = .ok (.invokevirtual 95, 3) := by decide +kernel
theorem dX6_fit_13 : decode cX6_fit 13 = .ok (.ifCond .eq 7, 3) := by decide +kernel
theorem dX6_fit_16 : decode cX6_fit 16 = .ok (.iconst 1, 1) := by decide +kernel
theorem dX6_fit_17 : decode cX6_fit 17 = .ok (.goto 4, 3) := by decide +kernel
theorem dX6_fit_20 : decode cX6_fit 20 = .ok (.iconst 0, 1) := by decide +kernel
theorem dX6_fit_21 : decode cX6_fit 21 = .ok (.istore_n 3, 1) := by decide +kernel
theorem dX6_fit_22 : decode cX6_fit 22 = .ok (.aload_n 0, 1) := by decide +kernel
theorem dX6_fit_23 : decode cX6_fit 23 = .ok (.iload_n 3, 1) := by decide +kernel
theorem dX6_fit_24 : decode cX6_fit 24 = .ok (.ifCond .ne 7, 3) := by decide +kernel
theorem dX6_fit_27 : decode cX6_fit 27 = .ok (.iconst 1, 1) := by decide +kernel
theorem dX6_fit_28 : decode cX6_fit 28 = .ok (.goto 24, 3) := by decide +kernel
theorem dX6_fit_31 : decode cX6_fit 31 = .ok (.aload_n 0, 1) := by decide +kernel
theorem dX6_fit_32 : decode cX6_fit 32 = .ok (.iload_n 1, 1) := by decide +kernel
theorem dX6_fit_33 : decode cX6_fit 33 = .ok (.invokevirtual 98, 3) := by decide +kernel
theorem dX6_fit_36 : decode cX6_fit 36 = .ok (.ifCond .eq 15, 3) := by decide +kernel
theorem dX6_fit_39 : decode cX6_fit 39 = .ok (.aload_n 0, 1) := by decide +kernel
theorem dX6_fit_40 : decode cX6_fit 40 = .ok (.iload_n 2, 1) := by decide +kernel
theorem dX6_fit_41 : decode cX6_fit 41 = .ok (.invokevirtual 98, 3) := by decide +kernel
theorem dX6_fit_44 : decode cX6_fit 44 = .ok (.ifCond .eq 7, 3) := by decide +kernel
theorem dX6_fit_47 : decode cX6_fit 47 = .ok (.iconst 0, 1) := by decide +kernel
theorem dX6_fit_48 : decode cX6_fit 48 = .ok (.goto 4, 3) := by decide +kernel
theorem dX6_fit_51 : decode cX6_fit 51 = .ok (.iconst 2, 1) := by decide +kernel
theorem dX6_fit_52 : decode cX6_fit 52 = .ok (.invokevirtual 76, 3) := by decide +kernel
theorem dX6_fit_55 : decode cX6_fit 55 = .ok (.ifCond .eq 16, 3) := by decide +kernel
theorem dX6_fit_58 : decode cX6_fit 58 = .ok (.aload_n 0, 1) := by decide +kernel
theorem dX6_fit_59 : decode cX6_fit 59 = .ok (.iload_n 1, 1) := by decide +kernel
theorem dX6_fit_60 : decode cX6_fit 60 = .ok (.iload_n 2, 1) := by decide +kernel
theorem dX6_fit_61 : decode cX6_fit 61 = .ok (.invokevirtual 113, 3) := by decide +kernel
theorem dX6_fit_64 : decode cX6_fit 64 = .ok (.ifCond .eq 7, 3) := by decide +kernel
theorem dX6_fit_67 : decode cX6_fit 67 = .ok (.iconst 1, 1) := by decide +kernel
theorem dX6_fit_68 : decode cX6_fit 68 = .ok (.goto 4, 3) := by decide +kernel
theorem dX6_fit_71 : decode cX6_fit 71 = .ok (.iconst 0, 1) := by decide +kernel
theorem dX6_fit_72 : decode cX6_fit 72 = .ok (.ireturn, 1) := by decide +kernel
set_option maxRecDepth 20000 in
theorem ggX6_isTeam_X6_size : GoodIn wsX6_isTeam wsX6_size := goodIn_r _ [6] (by decide +kernel) (by decide +kernel)
set_option maxRecDepth 20000 in
theorem gX6_isTeam_X6_size : GoodIn wsX6_isTeam (va_wsS RX6 84 yX6_size wsX6_size) := goodIn_app (goodIn_of _ (by decide +kernel)) ggX6_isTeam_X6_size
set_option maxRecDepth 20000 in
theorem ggX6_isTeam_X6_has : GoodIn wsX6_isTeam wsX6_has := goodIn_r _ [9] (by decide +kernel) (by decide +kernel)
set_option maxRecDepth 20000 in
theorem gX6_isTeam_X6_has : GoodIn wsX6_isTeam (va_wsS RX6 80 yX6_has wsX6_has) := goodIn_app (goodIn_of _ (by decide +kernel)) ggX6_isTeam_X6_has
theorem dX6_isTeam_0 : decode cX6_isTeam 0 = .ok (.iload_n 1, 1) := by decide +kernel
theorem dX6_isTeam_1 : decode cX6_isTeam 1 = .ok (.invokestatic 84, 3) := by decide +kernel
theorem dX6_isTeam_4 : decode cX6_isTeam 4 = .ok (.iconst 3, 1) := by decide +kernel
theorem dX6_isTeam_5 : decode cX6_isTeam 5 = .ok (.if_icmp .eq 5, 3) := by decide +kernel
theorem dX6_isTeam_8 : decode cX6_isTeam 8 = .ok (.iconst 0, 1) := by decide +kernel
theorem dX6_isTeam_9 : decode cX6_isTeam 9 = .ok (.ireturn, 1) := by decide +kernel
theorem dX6_isTeam_10 : decode cX6_isTeam 10 = .ok (.iconst (-1), 1) := by decide +kernel
theorem dX6_isTeam_11 : decode cX6_isTeam 11 = .ok (.istore_n 2, 1) := by decide +kernel
theorem dX6_isTeam_12 : decode cX6_isTeam 12 = .ok (.iconst (-1), 1) := by decide +kernel
theorem dX6_isTeam_13 : decode cX6_isTeam 13 = .ok (.istore_n 3, 1) := by decide +kernel
theorem dX6_isTeam_14 : decode cX6_isTeam 14 = .ok (.iconst (-1), 1) := by decide +kernel
theorem dX6_isTeam_15 : decode cX6_isTeam 15 = .ok (.istore 4, 2) := by decide +kernel
theorem dX6_isTeam_17 : decode cX6_isTeam 17 = .ok (.iconst 0, 1) := by decide +kernel
theorem dX6_isTeam_18 : decode cX6_isTeam 18 = .ok (.istore 5, 2) := by decide +kernel
theorem dX6_isTeam_20 : decode cX6_isTeam 20 = .ok (.iload 5, 2) := by decide +kernel
theorem dX6_isTeam_22 : decode cX6_isTeam 22 = .ok (.aload_n 0, 1) := by decide +kernel
theorem dX6_isTeam_23 : decode cX6_isTeam 23 = .ok (.getfield 63, 3) := by decide +kernel
theorem dX6_isTeam_26 : decode cX6_isTeam 26 = .ok (.if_icmp .ge 26, 3) := by decide +kernel
theorem dX6_isTeam_29 : decode cX6_isTeam 29 = .ok (.iload_n 1, 1) := by decide +kernel
theorem dX6_isTeam_30 : decode cX6_isTeam 30 = .ok (.iload 5, 2) := by decide +kernel
theorem dX6_isTeam_32 : decode cX6_isTeam 32 = .ok (.invokestatic 80, 3) := by decide +kernel
theorem dX6_isTeam_35 : decode cX6_isTeam 35 = .ok (.ifCond .eq 11, 3) := by decide +kernel
theorem dX6_isTeam_38 : decode cX6_isTeam 38 = .ok (.iload_n 3, 1) := by decide +kernel
theorem dX6_isTeam_39 : decode cX6_isTeam 39 = .ok (.istore 4, 2) := by decide +kernel
theorem dX6_isTeam_41 : decode cX6_isTeam 41 = .ok (.iload_n 2, 1) := by decide +kernel
theorem dX6_isTeam_42 : decode cX6_isTeam 42 = .ok (.istore_n 3, 1) := by decide +kernel
theorem dX6_isTeam_43 : decode cX6_isTeam 43 = .ok (.iload 5, 2) := by decide +kernel
theorem dX6_isTeam_45 : decode cX6_isTeam 45 = .ok (.istore_n 2, 1) := by decide +kernel
theorem dX6_isTeam_46 : decode cX6_isTeam 46 = .ok (.iinc 5 1, 3) := by decide +kernel
theorem dX6_isTeam_49 : decode cX6_isTeam 49 = .ok (.goto (-29), 3) := by decide +kernel
theorem dX6_isTeam_52 : decode cX6_isTeam 52 = .ok (.iconst 0, 1) := by decide +kernel
theorem dX6_isTeam_53 : decode cX6_isTeam 53 = .ok (.istore 5, 2) := by decide +kernel
theorem dX6_isTeam_55 : decode cX6_isTeam 55 = .ok (.iconst 0, 1) := by decide +kernel
theorem dX6_isTeam_56 : decode cX6_isTeam 56 = .ok (.istore 6, 2) := by decide +kernel
theorem dX6_isTeam_58 : decode cX6_isTeam 58 = .ok (.iload 6, 2) := by decide +kernel
theorem dX6_isTeam_60 : decode cX6_isTeam 60 = .ok (.iconst 3, 1) := by decide +kernel
theorem dX6_isTeam_61 : decode cX6_isTeam 61 = .ok (.if_icmp .ge 109, 3) := by decide +kernel
theorem dX6_isTeam_64 : decode cX6_isTeam 64 = .ok (.iload 6, 2) := by decide +kernel
theorem dX6_isTeam_66 : decode cX6_isTeam 66 = .ok (.iconst 1, 1) := by decide +kernel
theorem dX6_isTeam_67 : decode cX6_isTeam 67 = .ok (.iadd, 1) := by decide +kernel
theorem dX6_isTeam_68 : decode cX6_isTeam 68 = .ok (.iconst 3, 1) := by decide +kernel
theorem dX6_isTeam_69 : decode cX6_isTeam 69 = .ok (.irem, 1) := by decide +kernel
theorem dX6_isTeam_70 : decode cX6_isTeam 70 = .ok (.istore 7, 2) := by decide +kernel
theorem dX6_isTeam_72 : decode cX6_isTeam 72 = .ok (.iload 6, 2) := by decide +kernel
theorem dX6_isTeam_74 : decode cX6_isTeam 74 = .ok (.iconst 2, 1) := by decide +kernel
theorem dX6_isTeam_75 : decode cX6_isTeam 75 = .ok (.iadd, 1) := by decide +kernel
theorem dX6_isTeam_76 : decode cX6_isTeam 76 = .ok (.iconst 3, 1) := by decide +kernel
theorem dX6_isTeam_77 : decode cX6_isTeam 77 = .ok (.irem, 1) := by decide +kernel
theorem dX6_isTeam_78 : decode cX6_isTeam 78 = .ok (.istore 8, 2) := by decide +kernel
theorem dX6_isTeam_80 : decode cX6_isTeam 80 = .ok (.iload 5, 2) := by decide +kernel
theorem dX6_isTeam_82 : decode cX6_isTeam 82 = .ok (.ifCond .ne 75, 3) := by decide +kernel
theorem dX6_isTeam_85 : decode cX6_isTeam 85 = .ok (.aload_n 0, 1) := by decide +kernel
theorem dX6_isTeam_86 : decode cX6_isTeam 86 = .ok (.getfield 16, 3) := by decide +kernel
theorem dX6_isTeam_89 : decode cX6_isTeam 89 = .ok (.iload_n 2, 1) := by decide +kernel
theorem dX6_isTeam_90 : decode cX6_isTeam 90 = .ok (.iaload, 1) := by decide +kernel
theorem dX6_isTeam_91 : decode cX6_isTeam 91 = .ok (.iload 6, 2) := by decide +kernel
theorem dX6_isTeam_93 : decode cX6_isTeam 93 = .ok (.invokestatic 80, 3) := by decide +kernel
theorem dX6_isTeam_96 : decode cX6_isTeam 96 = .ok (.ifCond .eq 65, 3) := by decide +kernel
theorem dX6_isTeam_99 : decode cX6_isTeam 99 = .ok (.aload_n 0, 1) := by decide +kernel
theorem dX6_isTeam_100 : decode cX6_isTeam 100 = .ok (.getfield 16, 3) := by decide +kernel
theorem dX6_isTeam_103 : decode cX6_isTeam 103 = .ok (.iload_n 3, 1) := by decide +kernel
theorem dX6_isTeam_104 : decode cX6_isTeam 104 = .ok (.iaload, 1) := by decide +kernel
theorem dX6_isTeam_105 : decode cX6_isTeam 105 = .ok (.iload 7, 2) := by decide +kernel
theorem dX6_isTeam_107 : decode cX6_isTeam 107 = .ok (.invokestatic 80, 3) := by decide +kernel
theorem dX6_isTeam_110 : decode cX6_isTeam 110 = .ok (.ifCond .eq 18, 3) := by decide +kernel
theorem dX6_isTeam_113 : decode cX6_isTeam 113 = .ok (.aload_n 0, 1) := by decide +kernel
theorem dX6_isTeam_114 : decode cX6_isTeam 114 = .ok (.getfield 16, 3) := by decide +kernel
theorem dX6_isTeam_117 : decode cX6_isTeam 117 = .ok (.iload 4, 2) := by decide +kernel
theorem dX6_isTeam_119 : decode cX6_isTeam 119 = .ok (.iaload, 1) := by decide +kernel
theorem dX6_isTeam_120 : decode cX6_isTeam 120 = .ok (.iload 8, 2) := by decide +kernel
theorem dX6_isTeam_122 : decode cX6_isTeam 122 = .ok (.invokestatic 80, 3) := by decide +kernel
theorem dX6_isTeam_125 : decode cX6_isTeam 125 = .ok (.ifCond .ne 32, 3) := by decide +kernel
theorem dX6_isTeam_128 : decode cX6_isTeam 128 = .ok (.aload_n 0, 1) := by decide +kernel
theorem dX6_isTeam_129 : decode cX6_isTeam 129 = .ok (.getfield 16, 3) := by decide +kernel
theorem dX6_isTeam_132 : decode cX6_isTeam 132 = .ok (.iload_n 3, 1) := by decide +kernel
theorem dX6_isTeam_133 : decode cX6_isTeam 133 = .ok (.iaload, 1) := by decide +kernel
theorem dX6_isTeam_134 : decode cX6_isTeam 134 = .ok (.iload 8, 2) := by decide +kernel
theorem dX6_isTeam_136 : decode cX6_isTeam 136 = .ok (.invokestatic 80, 3) := by decide +kernel
theorem dX6_isTeam_139 : decode cX6_isTeam 139 = .ok (.ifCond .eq 22, 3) := by decide +kernel
theorem dX6_isTeam_142 : decode cX6_isTeam 142 = .ok (.aload_n 0, 1) := by decide +kernel
theorem dX6_isTeam_143 : decode cX6_isTeam 143 = .ok (.getfield 16, 3) := by decide +kernel
theorem dX6_isTeam_146 : decode cX6_isTeam 146 = .ok (.iload 4, 2) := by decide +kernel
theorem dX6_isTeam_148 : decode cX6_isTeam 148 = .ok (.iaload, 1) := by decide +kernel
theorem dX6_isTeam_149 : decode cX6_isTeam 149 = .ok (.iload 7, 2) := by decide +kernel
theorem dX6_isTeam_151 : decode cX6_isTeam 151 = .ok (.invokestatic 80, 3) := by decide +kernel
theorem dX6_isTeam_154 : decode cX6_isTeam 154 = .ok (.ifCond .eq 7, 3) := by decide +kernel
theorem dX6_isTeam_157 : decode cX6_isTeam 157 = .ok (.iconst 1, 1) := by decide +kernel
theorem dX6_isTeam_158 : decode cX6_isTeam 158 = .ok (.goto 4, 3) := by decide +kernel
theorem dX6_isTeam_161 : decode cX6_isTeam 161 = .ok (.iconst 0, 1) := by decide +kernel
theorem dX6_isTeam_162 : decode cX6_isTeam 162 = .ok (.istore 5, 2) := by decide +kernel
theorem dX6_isTeam_164 : decode cX6_isTeam 164 = .ok (.iinc 6 1, 3) := by decide +kernel
theorem dX6_isTeam_167 : decode cX6_isTeam 167 = .ok (.goto (-109), 3) := by decide +kernel
theorem dX6_isTeam_170 : decode cX6_isTeam 170 = .ok (.iload 5, 2) := by decide +kernel
theorem dX6_isTeam_172 : decode cX6_isTeam 172 = .ok (.ireturn, 1) := by decide +kernel
set_option maxRecDepth 20000 in
theorem ggX6_playersOf_X6_has : GoodIn wsX6_playersOf wsX6_has := goodIn_r _ [7] (by decide +kernel) (by decide +kernel)
set_option maxRecDepth 20000 in
theorem gX6_playersOf_X6_has : GoodIn wsX6_playersOf (va_wsS RX6 80 yX6_has wsX6_has) := goodIn_app (goodIn_of _ (by decide +kernel)) ggX6_playersOf_X6_has
theorem dX6_playersOf_0 : decode cX6_playersOf 0 = .ok (.iconst 0, 1) := by decide +kernel
theorem dX6_playersOf_1 : decode cX6_playersOf 1 = .ok (.istore_n 2, 1) := by decide +kernel
theorem dX6_playersOf_2 : decode cX6_playersOf 2 = .ok (.iconst 0, 1) := by decide +kernel
theorem dX6_playersOf_3 : decode cX6_playersOf 3 = .ok (.istore_n 3, 1) := by decide +kernel
theorem dX6_playersOf_4 : decode cX6_playersOf 4 = .ok (.iload_n 3, 1) := by decide +kernel
theorem dX6_playersOf_5 : decode cX6_playersOf 5 = .ok (.aload_n 0, 1) := by decide +kernel
theorem dX6_playersOf_6 : decode cX6_playersOf 6 = .ok (.getfield 116, 3) := by decide +kernel
theorem dX6_playersOf_9 : decode cX6_playersOf 9 = .ok (.if_icmp .ge 42, 3) := by decide +kernel
theorem dX6_playersOf_12 : decode cX6_playersOf 12 = .ok (.iload_n 2, 1) := by decide +kernel
theorem dX6_playersOf_13 : decode cX6_playersOf 13 = .ok (.iload_n 1, 1) := by decide +kernel
theorem dX6_playersOf_14 : decode cX6_playersOf 14 = .ok (.aload_n 0, 1) := by decide +kernel
theorem dX6_playersOf_15 : decode cX6_playersOf 15 = .ok (.getfield 116, 3) := by decide +kernel
theorem dX6_playersOf_18 : decode cX6_playersOf 18 = .ok (.iconst 1, 1) := by decide +kernel
theorem dX6_playersOf_19 : decode cX6_playersOf 19 = .ok (.isub, 1) := by decide +kernel
theorem dX6_playersOf_20 : decode cX6_playersOf 20 = .ok (.iload_n 3, 1) := by decide +kernel
theorem dX6_playersOf_21 : decode cX6_playersOf 21 = .ok (.isub, 1) := by decide +kernel
theorem dX6_playersOf_22 : decode cX6_playersOf 22 = .ok (.invokestatic 80, 3) := by decide +kernel
theorem dX6_playersOf_25 : decode cX6_playersOf 25 = .ok (.ifCond .eq 17, 3) := by decide +kernel
theorem dX6_playersOf_28 : decode cX6_playersOf 28 = .ok (.aload_n 0, 1) := by decide +kernel
theorem dX6_playersOf_29 : decode cX6_playersOf 29 = .ok (.getfield 28, 3) := by decide +kernel
theorem dX6_playersOf_32 : decode cX6_playersOf 32 = .ok (.aload_n 0, 1) := by decide +kernel
theorem dX6_playersOf_33 : decode cX6_playersOf 33 = .ok (.getfield 56, 3) := by decide +kernel
theorem dX6_playersOf_36 : decode cX6_playersOf 36 = .ok (.iload_n 3, 1) := by decide +kernel
theorem dX6_playersOf_37 : decode cX6_playersOf 37 = .ok (.iaload, 1) := by decide +kernel
theorem dX6_playersOf_38 : decode cX6_playersOf 38 = .ok (.iaload, 1) := by decide +kernel
theorem dX6_playersOf_39 : decode cX6_playersOf 39 = .ok (.goto 4, 3) := by decide +kernel
theorem dX6_playersOf_42 : decode cX6_playersOf 42 = .ok (.iconst 0, 1) := by decide +kernel
theorem dX6_playersOf_43 : decode cX6_playersOf 43 = .ok (.ior, 1) := by decide +kernel
theorem dX6_playersOf_44 : decode cX6_playersOf 44 = .ok (.istore_n 2, 1) := by decide +kernel
theorem dX6_playersOf_45 : decode cX6_playersOf 45 = .ok (.iinc 3 1, 3) := by decide +kernel
theorem dX6_playersOf_48 : decode cX6_playersOf 48 = .ok (.goto (-44), 3) := by decide +kernel
theorem dX6_playersOf_51 : decode cX6_playersOf 51 = .ok (.iload_n 2, 1) := by decide +kernel
theorem dX6_playersOf_52 : decode cX6_playersOf 52 = .ok (.ireturn, 1) := by decide +kernel
set_option maxRecDepth 20000 in
theorem ggX6_splits_X6_playersOf : GoodIn wsX6_splits wsX6_playersOf := goodIn_r _ [7, 8, 9, 10, 11, 12, 6, 13, 28, 29, 30, 31, 32, 33, 34, 35, 36, 37, 38, 39, 40, 41, 42, 43, 44, 45, 46, 47, 48, 49, 50, 51] (by decide +kernel) (by decide +kernel)
set_option maxRecDepth 20000 in
theorem gX6_splits_X6_playersOf : GoodIn wsX6_splits (wsV RX6 122 RX6 yX6_playersOf wsX6_playersOf) := goodIn_app (goodIn_of _ (by decide +kernel)) ggX6_splits_X6_playersOf
set_option maxRecDepth 20000 in
theorem ggX6_splits_X6_isTeam : GoodIn wsX6_splits wsX6_isTeam := goodIn_r _ [17, 18, 19, 20, 21, 6, 22, 11, 12, 13, 28, 29, 30, 31, 32, 33, 34, 35, 36, 37, 38, 39, 40, 41, 42, 43, 44, 45, 46, 47, 48, 49, 50, 51] (by decide +kernel) (by decide +kernel)
set_option maxRecDepth 20000 in
theorem gX6_splits_X6_isTeam : GoodIn wsX6_splits (wsV RX6 125 RX6 yX6_isTeam wsX6_isTeam) := goodIn_app (goodIn_of _ (by decide +kernel)) ggX6_splits_X6_isTeam
set_option maxRecDepth 20000 in
theorem ggX6_splits_X6_sumOf : GoodIn wsX6_splits wsX6_sumOf := goodIn_r _ [26, 18, 27, 11, 12, 6, 13, 28, 29, 30, 31, 32, 33, 34, 35, 36, 37, 38, 39, 40, 41, 42, 43, 44, 45, 46, 47, 48, 49, 50, 51] (by decide +kernel) (by decide +kernel)
set_option maxRecDepth 20000 in
theorem gX6_splits_X6_sumOf : GoodIn wsX6_splits (wsV RX6 107 RX6 yX6_sumOf wsX6_sumOf) := goodIn_app (goodIn_of _ (by decide +kernel)) ggX6_splits_X6_sumOf
theorem dX6_splits_0 : decode cX6_splits 0 = .ok (.aload_n 0, 1) := by decide +kernel
theorem dX6_splits_1 : decode cX6_splits 1 = .ok (.iconst 0, 1) := by decide +kernel
theorem dX6_splits_2 : decode cX6_splits 2 = .ok (.putfield 119, 3) := by decide +kernel
theorem dX6_splits_5 : decode cX6_splits 5 = .ok (.iload_n 1, 1) := by decide +kernel
theorem dX6_splits_6 : decode cX6_splits 6 = .ok (.iload_n 2, 1) := by decide +kernel
theorem dX6_splits_7 : decode cX6_splits 7 = .ok (.iconst (-1), 1) := by decide +kernel
theorem dX6_splits_8 : decode cX6_splits 8 = .ok (.ixor, 1) := by decide +kernel
theorem dX6_splits_9 : decode cX6_splits 9 = .ok (.iand, 1) := by decide +kernel
theorem dX6_splits_10 : decode cX6_splits 10 = .ok (.istore_n 3, 1) := by decide +kernel
theorem dX6_splits_11 : decode cX6_splits 11 = .ok (.iload_n 3, 1) := by decide +kernel
theorem dX6_splits_12 : decode cX6_splits 12 = .ok (.istore 4, 2) := by decide +kernel
theorem dX6_splits_14 : decode cX6_splits 14 = .ok (.iconst 1, 1) := by decide +kernel
theorem dX6_splits_15 : decode cX6_splits 15 = .ok (.istore 5, 2) := by decide +kernel
theorem dX6_splits_17 : decode cX6_splits 17 = .ok (.iload 5, 2) := by decide +kernel
theorem dX6_splits_19 : decode cX6_splits 19 = .ok (.ifCond .eq 157, 3) := by decide +kernel
theorem dX6_splits_22 : decode cX6_splits 22 = .ok (.aload_n 0, 1) := by decide +kernel
theorem dX6_splits_23 : decode cX6_splits 23 = .ok (.iload 4, 2) := by decide +kernel
theorem dX6_splits_25 : decode cX6_splits 25 = .ok (.iload_n 2, 1) := by decide +kernel
theorem dX6_splits_26 : decode cX6_splits 26 = .ok (.ior, 1) := by decide +kernel
theorem dX6_splits_27 : decode cX6_splits 27 = .ok (.invokevirtual 122, 3) := by decide +kernel
theorem dX6_splits_30 : decode cX6_splits 30 = .ok (.istore 6, 2) := by decide +kernel
theorem dX6_splits_32 : decode cX6_splits 32 = .ok (.aload_n 0, 1) := by decide +kernel
theorem dX6_splits_33 : decode cX6_splits 33 = .ok (.iload_n 3, 1) := by decide +kernel
theorem dX6_splits_34 : decode cX6_splits 34 = .ok (.iload 4, 2) := by decide +kernel
theorem dX6_splits_36 : decode cX6_splits 36 = .ok (.iconst (-1), 1) := by decide +kernel
theorem dX6_splits_37 : decode cX6_splits 37 = .ok (.ixor, 1) := by decide +kernel
theorem dX6_splits_38 : decode cX6_splits 38 = .ok (.iand, 1) := by decide +kernel
theorem dX6_splits_39 : decode cX6_splits 39 = .ok (.invokevirtual 122, 3) := by decide +kernel
theorem dX6_splits_42 : decode cX6_splits 42 = .ok (.istore 7, 2) := by decide +kernel
theorem dX6_splits_44 : decode cX6_splits 44 = .ok (.aload_n 0, 1) := by decide +kernel
theorem dX6_splits_45 : decode cX6_splits 45 = .ok (.iload 6, 2) := by decide +kernel
theorem dX6_splits_47 : decode cX6_splits 47 = .ok (.invokevirtual 125, 3) := by decide +kernel
theorem dX6_splits_50 : decode cX6_splits 50 = .ok (.ifCond .eq 103, 3) := by decide +kernel
theorem dX6_splits_53 : decode cX6_splits 53 = .ok (.aload_n 0, 1) := by decide +kernel
theorem dX6_splits_54 : decode cX6_splits 54 = .ok (.iload 7, 2) := by decide +kernel
theorem dX6_splits_56 : decode cX6_splits 56 = .ok (.invokevirtual 125, 3) := by decide +kernel
theorem dX6_splits_59 : decode cX6_splits 59 = .ok (.ifCond .eq 94, 3) := by decide +kernel
theorem dX6_splits_62 : decode cX6_splits 62 = .ok (.aload_n 0, 1) := by decide +kernel
theorem dX6_splits_63 : decode cX6_splits 63 = .ok (.iload 6, 2) := by decide +kernel
theorem dX6_splits_65 : decode cX6_splits 65 = .ok (.invokevirtual 107, 3) := by decide +kernel
theorem dX6_splits_68 : decode cX6_splits 68 = .ok (.aload_n 0, 1) := by decide +kernel
theorem dX6_splits_69 : decode cX6_splits 69 = .ok (.iload 7, 2) := by decide +kernel
theorem dX6_splits_71 : decode cX6_splits 71 = .ok (.invokevirtual 107, 3) := by decide +kernel
theorem dX6_splits_74 : decode cX6_splits 74 = .ok (.isub, 1) := by decide +kernel
theorem dX6_splits_75 : decode cX6_splits 75 = .ok (.istore 8, 2) := by decide +kernel
theorem dX6_splits_77 : decode cX6_splits 77 = .ok (.iload 8, 2) := by decide +kernel
theorem dX6_splits_79 : decode cX6_splits 79 = .ok (.ifCond .ge 9, 3) := by decide +kernel
theorem dX6_splits_82 : decode cX6_splits 82 = .ok (.iload 8, 2) := by decide +kernel
theorem dX6_splits_84 : decode cX6_splits 84 = .ok (.ineg, 1) := by decide +kernel
theorem dX6_splits_85 : decode cX6_splits 85 = .ok (.goto 5, 3) := by decide +kernel
theorem dX6_splits_88 : decode cX6_splits 88 = .ok (.iload 8, 2) := by decide +kernel
theorem dX6_splits_90 : decode cX6_splits 90 = .ok (.istore 8, 2) := by decide +kernel
theorem dX6_splits_92 : decode cX6_splits 92 = .ok (.aload_n 0, 1) := by decide +kernel
theorem dX6_splits_93 : decode cX6_splits 93 = .ok (.getfield 119, 3) := by decide +kernel
theorem dX6_splits_96 : decode cX6_splits 96 = .ok (.ifCond .eq 12, 3) := by decide +kernel
theorem dX6_splits_99 : decode cX6_splits 99 = .ok (.iload 8, 2) := by decide +kernel
theorem dX6_splits_101 : decode cX6_splits 101 = .ok (.aload_n 0, 1) := by decide +kernel
theorem dX6_splits_102 : decode cX6_splits 102 = .ok (.getfield 128, 3) := by decide +kernel
theorem dX6_splits_105 : decode cX6_splits 105 = .ok (.if_icmp .ge 7, 3) := by decide +kernel
theorem dX6_splits_108 : decode cX6_splits 108 = .ok (.iconst 1, 1) := by decide +kernel
theorem dX6_splits_109 : decode cX6_splits 109 = .ok (.goto 4, 3) := by decide +kernel
theorem dX6_splits_112 : decode cX6_splits 112 = .ok (.iconst 0, 1) := by decide +kernel
theorem dX6_splits_113 : decode cX6_splits 113 = .ok (.istore 9, 2) := by decide +kernel
theorem dX6_splits_115 : decode cX6_splits 115 = .ok (.aload_n 0, 1) := by decide +kernel
theorem dX6_splits_116 : decode cX6_splits 116 = .ok (.iload 9, 2) := by decide +kernel
theorem dX6_splits_118 : decode cX6_splits 118 = .ok (.ifCond .eq 8, 3) := by decide +kernel
theorem dX6_splits_121 : decode cX6_splits 121 = .ok (.iload 8, 2) := by decide +kernel
theorem dX6_splits_123 : decode cX6_splits 123 = .ok (.goto 7, 3) := by decide +kernel
theorem dX6_splits_126 : decode cX6_splits 126 = .ok (.aload_n 0, 1) := by decide +kernel
theorem dX6_splits_127 : decode cX6_splits 127 = .ok (.getfield 128, 3) := by decide +kernel
theorem dX6_splits_130 : decode cX6_splits 130 = .ok (.putfield 128, 3) := by decide +kernel
theorem dX6_splits_133 : decode cX6_splits 133 = .ok (.aload_n 0, 1) := by decide +kernel
theorem dX6_splits_134 : decode cX6_splits 134 = .ok (.iload 9, 2) := by decide +kernel
theorem dX6_splits_136 : decode cX6_splits 136 = .ok (.ifCond .eq 10, 3) := by decide +kernel
theorem dX6_splits_139 : decode cX6_splits 139 = .ok (.iload 4, 2) := by decide +kernel
theorem dX6_splits_141 : decode cX6_splits 141 = .ok (.iload_n 2, 1) := by decide +kernel
theorem dX6_splits_142 : decode cX6_splits 142 = .ok (.ior, 1) := by decide +kernel
theorem dX6_splits_143 : decode cX6_splits 143 = .ok (.goto 7, 3) := by decide +kernel
theorem dX6_splits_146 : decode cX6_splits 146 = .ok (.aload_n 0, 1) := by decide +kernel
theorem dX6_splits_147 : decode cX6_splits 147 = .ok (.getfield 119, 3) := by decide +kernel
theorem dX6_splits_150 : decode cX6_splits 150 = .ok (.putfield 119, 3) := by decide +kernel
theorem dX6_splits_153 : decode cX6_splits 153 = .ok (.iload 4, 2) := by decide +kernel
theorem dX6_splits_155 : decode cX6_splits 155 = .ok (.ifCond .le 7, 3) := by decide +kernel
theorem dX6_splits_158 : decode cX6_splits 158 = .ok (.iconst 1, 1) := by decide +kernel
theorem dX6_splits_159 : decode cX6_splits 159 = .ok (.goto 4, 3) := by decide +kernel
theorem dX6_splits_162 : decode cX6_splits 162 = .ok (.iconst 0, 1) := by decide +kernel
theorem dX6_splits_163 : decode cX6_splits 163 = .ok (.istore 5, 2) := by decide +kernel
theorem dX6_splits_165 : decode cX6_splits 165 = .ok (.iload 4, 2) := by decide +kernel
theorem dX6_splits_167 : decode cX6_splits 167 = .ok (.iconst 1, 1) := by decide +kernel
theorem dX6_splits_168 : decode cX6_splits 168 = .ok (.isub, 1) := by decide +kernel
theorem dX6_splits_169 : decode cX6_splits 169 = .ok (.iload_n 3, 1) := by decide +kernel
theorem dX6_splits_170 : decode cX6_splits 170 = .ok (.iand, 1) := by decide +kernel
theorem dX6_splits_171 : decode cX6_splits 171 = .ok (.istore 4, 2) := by decide +kernel
theorem dX6_splits_173 : decode cX6_splits 173 = .ok (.goto (-156), 3) := by decide +kernel
theorem dX6_splits_176 : decode cX6_splits 176 = .ok (.aload_n 0, 1) := by decide +kernel
theorem dX6_splits_177 : decode cX6_splits 177 = .ok (.getfield 119, 3) := by decide +kernel
theorem dX6_splits_180 : decode cX6_splits 180 = .ok (.ifCond .eq 7, 3) := by decide +kernel
theorem dX6_splits_183 : decode cX6_splits 183 = .ok (.iconst 1, 1) := by decide +kernel
theorem dX6_splits_184 : decode cX6_splits 184 = .ok (.goto 4, 3) := by decide +kernel
theorem dX6_splits_187 : decode cX6_splits 187 = .ok (.iconst 0, 1) := by decide +kernel
theorem dX6_splits_188 : decode cX6_splits 188 = .ok (.ireturn, 1) := by decide +kernel
set_option maxRecDepth 20000 in
theorem ggX6_isPossible_X6_size : GoodIn wsX6_isPossible wsX6_size := goodIn_r _ [6] (by decide +kernel) (by decide +kernel)
set_option maxRecDepth 20000 in
theorem gX6_isPossible_X6_size : GoodIn wsX6_isPossible (va_wsS RX6 84 yX6_size wsX6_size) := goodIn_app (goodIn_of _ (by decide +kernel)) ggX6_isPossible_X6_size
set_option maxRecDepth 20000 in
theorem ggX6_isPossible_X6_playersOf : GoodIn wsX6_isPossible wsX6_playersOf := goodIn_r _ [10, 1, 11, 2, 12, 13, 5, 14, 42, 43, 44, 45, 46, 47, 48, 49, 50, 51, 52, 53, 54, 55, 56, 57, 58, 59, 60, 61, 62, 63, 64, 65] (by decide +kernel) (by decide +kernel)
set_option maxRecDepth 20000 in
theorem gX6_isPossible_X6_playersOf : GoodIn wsX6_isPossible (wsV RX6 122 RX6 yX6_playersOf wsX6_playersOf) := goodIn_app (goodIn_of _ (by decide +kernel)) ggX6_isPossible_X6_playersOf
set_option maxRecDepth 20000 in
theorem ggX6_isPossible_X6_has : GoodIn wsX6_isPossible wsX6_has := goodIn_r _ [14] (by decide +kernel) (by decide +kernel)
set_option maxRecDepth 20000 in
theorem gX6_isPossible_X6_has : GoodIn wsX6_isPossible (va_wsS RX6 80 yX6_has wsX6_has) := goodIn_app (goodIn_of _ (by decide +kernel)) ggX6_isPossible_X6_has
set_option maxRecDepth 20000 in
theorem ggX6_isPossible_X6_fits : GoodIn wsX6_isPossible wsX6_fits := goodIn_r _ [18, 11, 19, 20, 21, 5, 22, 23, 24, 12, 13, 14, 3, 4, 6, 25, 26, 27, 28, 29, 30, 42, 43, 44, 45, 46, 47, 48, 49, 50, 51, 52, 53, 54, 55, 56, 57, 58, 59, 60, 61, 62, 63, 64, 65] (by decide +kernel) (by decide +kernel)
set_option maxRecDepth 20000 in
theorem gX6_isPossible_X6_fits : GoodIn wsX6_isPossible (wsV RX6 113 RX6 yX6_fits wsX6_fits) := goodIn_app (goodIn_of _ (by decide +kernel)) ggX6_isPossible_X6_fits
set_option maxRecDepth 20000 in
theorem ggX6_isPossible_X6_splits : GoodIn wsX6_isPossible wsX6_splits := goodIn_r _ [34, 35, 36, 7, 8, 9, 5, 10, 1, 11, 2, 12, 13, 14, 37, 38, 39, 40, 23, 41, 3, 4, 6, 19, 20, 21, 22, 24, 42, 43, 44, 45, 46, 47, 48, 49, 50, 51, 52, 53, 54, 55, 56, 57, 58, 59, 60, 61, 62, 63, 64, 65] (by decide +kernel) (by decide +kernel)
set_option maxRecDepth 20000 in
theorem gX6_isPossible_X6_splits : GoodIn wsX6_isPossible (wsV RX6 131 RX6 yX6_splits wsX6_splits) := goodIn_app (goodIn_of _ (by decide +kernel)) ggX6_isPossible_X6_splits
theorem dX6_isPossible_0 : decode cX6_isPossible 0 = .ok (.iload_n 1, 1) := by decide +kernel
theorem dX6_isPossible_1 : decode cX6_isPossible 1 = .ok (.invokestatic 84, 3) := by decide +kernel
theorem dX6_isPossible_4 : decode cX6_isPossible 4 = .ok (.bipush 6, 2) := by decide +kernel
theorem dX6_isPossible_6 : decode cX6_isPossible 6 = .ok (.if_icmp .gt 20, 3) := by decide +kernel
theorem dX6_isPossible_9 : decode cX6_isPossible 9 = .ok (.aload_n 0, 1) := by decide +kernel
theorem dX6_isPossible_10 : decode cX6_isPossible 10 = .ok (.iload_n 1, 1) := by decide +kernel
theorem dX6_isPossible_11 : decode cX6_isPossible 11 = .ok (.invokevirtual 122, 3) := by decide +kernel
theorem dX6_isPossible_14 : decode cX6_isPossible 14 = .ok (.invokestatic 84, 3) := by decide +kernel
theorem dX6_isPossible_17 : decode cX6_isPossible 17 = .ok (.bipush 6, 2) := by decide +kernel
theorem dX6_isPossible_19 : decode cX6_isPossible 19 = .ok (.if_icmp .ne 7, 3) := by decide +kernel
theorem dX6_isPossible_22 : decode cX6_isPossible 22 = .ok (.iconst 1, 1) := by decide +kernel
theorem dX6_isPossible_23 : decode cX6_isPossible 23 = .ok (.goto 4, 3) := by decide +kernel
theorem dX6_isPossible_26 : decode cX6_isPossible 26 = .ok (.iconst 0, 1) := by decide +kernel
theorem dX6_isPossible_27 : decode cX6_isPossible 27 = .ok (.istore 4, 2) := by decide +kernel
theorem dX6_isPossible_29 : decode cX6_isPossible 29 = .ok (.iconst 0, 1) := by decide +kernel
theorem dX6_isPossible_30 : decode cX6_isPossible 30 = .ok (.istore 5, 2) := by decide +kernel
theorem dX6_isPossible_32 : decode cX6_isPossible 32 = .ok (.iload 5, 2) := by decide +kernel
theorem dX6_isPossible_34 : decode cX6_isPossible 34 = .ok (.aload_n 0, 1) := by decide +kernel
theorem dX6_isPossible_35 : decode cX6_isPossible 35 = .ok (.getfield 116, 3) := by decide +kernel
theorem dX6_isPossible_38 : decode cX6_isPossible 38 = .ok (.if_icmp .ge 52, 3) := by decide +kernel
theorem dX6_isPossible_41 : decode cX6_isPossible 41 = .ok (.iload 4, 2) := by decide +kernel
theorem dX6_isPossible_43 : decode cX6_isPossible 43 = .ok (.ifCond .eq 47, 3) := by decide +kernel
theorem dX6_isPossible_46 : decode cX6_isPossible 46 = .ok (.iload_n 1, 1) := by decide +kernel
theorem dX6_isPossible_47 : decode cX6_isPossible 47 = .ok (.aload_n 0, 1) := by decide +kernel
theorem dX6_isPossible_48 : decode cX6_isPossible 48 = .ok (.getfield 116, 3) := by decide +kernel
theorem dX6_isPossible_51 : decode cX6_isPossible 51 = .ok (.iconst 1, 1) := by decide +kernel
theorem dX6_isPossible_52 : decode cX6_isPossible 52 = .ok (.isub, 1) := by decide +kernel
theorem dX6_isPossible_53 : decode cX6_isPossible 53 = .ok (.iload 5, 2) := by decide +kernel
theorem dX6_isPossible_55 : decode cX6_isPossible 55 = .ok (.isub, 1) := by decide +kernel
theorem dX6_isPossible_56 : decode cX6_isPossible 56 = .ok (.invokestatic 80, 3) := by decide +kernel
theorem dX6_isPossible_59 : decode cX6_isPossible 59 = .ok (.ifCond .eq 18, 3) := by decide +kernel
theorem dX6_isPossible_62 : decode cX6_isPossible 62 = .ok (.aload_n 0, 1) := by decide +kernel
theorem dX6_isPossible_63 : decode cX6_isPossible 63 = .ok (.iload_n 3, 1) := by decide +kernel
theorem dX6_isPossible_64 : decode cX6_isPossible 64 = .ok (.aload_n 0, 1) := by decide +kernel
theorem dX6_isPossible_65 : decode cX6_isPossible 65 = .ok (.getfield 56, 3) := by decide +kernel
theorem dX6_isPossible_68 : decode cX6_isPossible 68 = .ok (.iload 5, 2) := by decide +kernel
theorem dX6_isPossible_70 : decode cX6_isPossible 70 = .ok (.iaload, 1) := by decide +kernel
theorem dX6_isPossible_71 : decode cX6_isPossible 71 = .ok (.invokevirtual 113, 3) := by decide +kernel
theorem dX6_isPossible_74 : decode cX6_isPossible 74 = .ok (.ifCond .eq 7, 3) := by decide +kernel
theorem dX6_isPossible_77 : decode cX6_isPossible 77 = .ok (.iconst 1, 1) := by decide +kernel
theorem dX6_isPossible_78 : decode cX6_isPossible 78 = .ok (.goto 4, 3) := by decide +kernel
theorem dX6_isPossible_81 : decode cX6_isPossible 81 = .ok (.iconst 0, 1) := by decide +kernel
theorem dX6_isPossible_82 : decode cX6_isPossible 82 = .ok (.istore 4, 2) := by decide +kernel
theorem dX6_isPossible_84 : decode cX6_isPossible 84 = .ok (.iinc 5 1, 3) := by decide +kernel
theorem dX6_isPossible_87 : decode cX6_isPossible 87 = .ok (.goto (-55), 3) := by decide +kernel
theorem dX6_isPossible_90 : decode cX6_isPossible 90 = .ok (.iload 4, 2) := by decide +kernel
theorem dX6_isPossible_92 : decode cX6_isPossible 92 = .ok (.ifCond .eq 16, 3) := by decide +kernel
theorem dX6_isPossible_95 : decode cX6_isPossible 95 = .ok (.aload_n 0, 1) := by decide +kernel
theorem dX6_isPossible_96 : decode cX6_isPossible 96 = .ok (.iload_n 1, 1) := by decide +kernel
theorem dX6_isPossible_97 : decode cX6_isPossible 97 = .ok (.iload_n 2, 1) := by decide +kernel
theorem dX6_isPossible_98 : decode cX6_isPossible 98 = .ok (.invokevirtual 131, 3) := by decide +kernel
theorem dX6_isPossible_101 : decode cX6_isPossible 101 = .ok (.ifCond .eq 7, 3) := by decide +kernel
theorem dX6_isPossible_104 : decode cX6_isPossible 104 = .ok (.iconst 1, 1) := by decide +kernel
theorem dX6_isPossible_105 : decode cX6_isPossible 105 = .ok (.goto 4, 3) := by decide +kernel
theorem dX6_isPossible_108 : decode cX6_isPossible 108 = .ok (.iconst 0, 1) := by decide +kernel
theorem dX6_isPossible_109 : decode cX6_isPossible 109 = .ok (.ireturn, 1) := by decide +kernel
theorem dX6_lines_0 : decode cX6_lines 0 = .ok (.aload_n 0, 1) := by decide +kernel
theorem dX6_lines_1 : decode cX6_lines 1 = .ok (.iconst 0, 1) := by decide +kernel
theorem dX6_lines_2 : decode cX6_lines 2 = .ok (.putfield 116, 3) := by decide +kernel
theorem dX6_lines_5 : decode cX6_lines 5 = .ok (.iconst 0, 1) := by decide +kernel
theorem dX6_lines_6 : decode cX6_lines 6 = .ok (.istore_n 1, 1) := by decide +kernel
theorem dX6_lines_7 : decode cX6_lines 7 = .ok (.iload_n 1, 1) := by decide +kernel
theorem dX6_lines_8 : decode cX6_lines 8 = .ok (.aload_n 0, 1) := by decide +kernel
theorem dX6_lines_9 : decode cX6_lines 9 = .ok (.getfield 70, 3) := by decide +kernel
theorem dX6_lines_12 : decode cX6_lines 12 = .ok (.if_icmp .ge 38, 3) := by decide +kernel
theorem dX6_lines_15 : decode cX6_lines 15 = .ok (.aload_n 0, 1) := by decide +kernel
theorem dX6_lines_16 : decode cX6_lines 16 = .ok (.getfield 34, 3) := by decide +kernel
theorem dX6_lines_19 : decode cX6_lines 19 = .ok (.iload_n 1, 1) := by decide +kernel
theorem dX6_lines_20 : decode cX6_lines 20 = .ok (.baload, 1) := by decide +kernel
theorem dX6_lines_21 : decode cX6_lines 21 = .ok (.ifCond .eq 23, 3) := by decide +kernel
theorem dX6_lines_24 : decode cX6_lines 24 = .ok (.aload_n 0, 1) := by decide +kernel
theorem dX6_lines_25 : decode cX6_lines 25 = .ok (.getfield 56, 3) := by decide +kernel
theorem dX6_lines_28 : decode cX6_lines 28 = .ok (.aload_n 0, 1) := by decide +kernel
theorem dX6_lines_29 : decode cX6_lines 29 = .ok (.getfield 116, 3) := by decide +kernel
theorem dX6_lines_32 : decode cX6_lines 32 = .ok (.iload_n 1, 1) := by decide +kernel
theorem dX6_lines_33 : decode cX6_lines 33 = .ok (.iastore, 1) := by decide +kernel
theorem dX6_lines_34 : decode cX6_lines 34 = .ok (.aload_n 0, 1) := by decide +kernel
theorem dX6_lines_35 : decode cX6_lines 35 = .ok (.dup, 1) := by decide +kernel
theorem dX6_lines_36 : decode cX6_lines 36 = .ok (.getfield 116, 3) := by decide +kernel
theorem dX6_lines_39 : decode cX6_lines 39 = .ok (.iconst 1, 1) := by decide +kernel
theorem dX6_lines_40 : decode cX6_lines 40 = .ok (.iadd, 1) := by decide +kernel
theorem dX6_lines_41 : decode cX6_lines 41 = .ok (.putfield 116, 3) := by decide +kernel
theorem dX6_lines_44 : decode cX6_lines 44 = .ok (.iinc 1 1, 3) := by decide +kernel
theorem dX6_lines_47 : decode cX6_lines 47 = .ok (.goto (-40), 3) := by decide +kernel
theorem dX6_lines_50 : decode cX6_lines 50 = .ok (.return_, 1) := by decide +kernel
set_option maxRecDepth 20000 in
theorem ggX6_make_X6_lines : GoodIn wsX6_make wsX6_lines := goodIn_r _ [8, 2, 9, 10, 3, 69, 70, 71, 72, 73, 74, 75, 76, 77, 78, 79, 80, 81, 82, 83, 84, 85, 86, 87, 88, 89, 90, 91, 92] (by decide +kernel) (by decide +kernel)
set_option maxRecDepth 20000 in
theorem gX6_make_X6_lines : GoodIn wsX6_make (wsV RX6 134 RX6 yX6_lines wsX6_lines) := goodIn_app (goodIn_of _ (by decide +kernel)) ggX6_make_X6_lines
set_option maxRecDepth 20000 in
theorem ggX6_make_X6_isPossible : GoodIn wsX6_make wsX6_isPossible := goodIn_r _ [14, 2, 3, 15, 16, 7, 17, 18, 19, 20, 21, 22, 23, 24, 25, 26, 27, 28, 29, 30, 31, 32, 33, 34, 35, 36, 37, 38, 39, 40, 41, 42, 43, 44, 45, 46, 47, 48, 49, 50, 51, 52, 69, 70, 71, 72, 73, 74, 75, 76, 77, 78, 79, 80, 81, 82, 83, 84, 85, 86, 87, 88, 89, 90, 91, 92] (by decide +kernel) (by decide +kernel)
set_option maxRecDepth 20000 in
theorem gX6_make_X6_isPossible : GoodIn wsX6_make (wsV RX6 137 RX6 yX6_isPossible wsX6_isPossible) := goodIn_app (goodIn_of _ (by decide +kernel)) ggX6_make_X6_isPossible
set_option maxRecDepth 20000 in
theorem ggX6_make_X6_makes : GoodIn wsX6_make wsX6_makes := goodIn_r _ [56, 57, 58, 46, 59, 47, 60, 40, 61, 62, 2, 10, 3, 63, 22, 18, 19, 20, 7, 21, 23, 24, 25, 64, 65, 66, 67, 34, 68, 69, 70, 71, 72, 73, 74, 75, 76, 77, 78, 79, 80, 81, 82, 83, 84, 85, 86, 87, 88, 89, 90, 91, 92] (by decide +kernel) (by decide +kernel)
set_option maxRecDepth 20000 in
theorem gX6_make_X6_makes : GoodIn wsX6_make (wsV RX6 140 RX6 yX6_makes wsX6_makes) := goodIn_app (goodIn_of _ (by decide +kernel)) ggX6_make_X6_makes
theorem dX6_make_0 : decode cX6_make 0 = .ok (.aload_n 0, 1) := by decide +kernel
theorem dX6_make_1 : decode cX6_make 1 = .ok (.iconst 0, 1) := by decide +kernel
theorem dX6_make_2 : decode cX6_make 2 = .ok (.putfield 59, 3) := by decide +kernel
theorem dX6_make_5 : decode cX6_make 5 = .ok (.aload_n 0, 1) := by decide +kernel
theorem dX6_make_6 : decode cX6_make 6 = .ok (.invokevirtual 134, 3) := by decide +kernel
theorem dX6_make_9 : decode cX6_make 9 = .ok (.iconst 0, 1) := by decide +kernel
theorem dX6_make_10 : decode cX6_make 10 = .ok (.istore_n 1, 1) := by decide +kernel
theorem dX6_make_11 : decode cX6_make 11 = .ok (.iload_n 1, 1) := by decide +kernel
theorem dX6_make_12 : decode cX6_make 12 = .ok (.aload_n 0, 1) := by decide +kernel
theorem dX6_make_13 : decode cX6_make 13 = .ok (.getfield 116, 3) := by decide +kernel
theorem dX6_make_16 : decode cX6_make 16 = .ok (.if_icmp .ge 59, 3) := by decide +kernel
theorem dX6_make_19 : decode cX6_make 19 = .ok (.iconst 1, 1) := by decide +kernel
theorem dX6_make_20 : decode cX6_make 20 = .ok (.aload_n 0, 1) := by decide +kernel
theorem dX6_make_21 : decode cX6_make 21 = .ok (.getfield 116, 3) := by decide +kernel
theorem dX6_make_24 : decode cX6_make 24 = .ok (.iconst 1, 1) := by decide +kernel
theorem dX6_make_25 : decode cX6_make 25 = .ok (.isub, 1) := by decide +kernel
theorem dX6_make_26 : decode cX6_make 26 = .ok (.iload_n 1, 1) := by decide +kernel
theorem dX6_make_27 : decode cX6_make 27 = .ok (.isub, 1) := by decide +kernel
theorem dX6_make_28 : decode cX6_make 28 = .ok (.ishl, 1) := by decide +kernel
theorem dX6_make_29 : decode cX6_make 29 = .ok (.istore_n 2, 1) := by decide +kernel
theorem dX6_make_30 : decode cX6_make 30 = .ok (.iload_n 2, 1) := by decide +kernel
theorem dX6_make_31 : decode cX6_make 31 = .ok (.iconst 1, 1) := by decide +kernel
theorem dX6_make_32 : decode cX6_make 32 = .ok (.isub, 1) := by decide +kernel
theorem dX6_make_33 : decode cX6_make 33 = .ok (.istore_n 3, 1) := by decide +kernel
theorem dX6_make_34 : decode cX6_make 34 = .ok (.iload_n 3, 1) := by decide +kernel
theorem dX6_make_35 : decode cX6_make 35 = .ok (.ifCond .le 34, 3) := by decide +kernel
theorem dX6_make_38 : decode cX6_make 38 = .ok (.aload_n 0, 1) := by decide +kernel
theorem dX6_make_39 : decode cX6_make 39 = .ok (.iload_n 2, 1) := by decide +kernel
theorem dX6_make_40 : decode cX6_make 40 = .ok (.iload_n 3, 1) := by decide +kernel
theorem dX6_make_41 : decode cX6_make 41 = .ok (.ior, 1) := by decide +kernel
theorem dX6_make_42 : decode cX6_make 42 = .ok (.iload_n 2, 1) := by decide +kernel
theorem dX6_make_43 : decode cX6_make 43 = .ok (.aload_n 0, 1) := by decide +kernel
theorem dX6_make_44 : decode cX6_make 44 = .ok (.getfield 56, 3) := by decide +kernel
theorem dX6_make_47 : decode cX6_make 47 = .ok (.iload_n 1, 1) := by decide +kernel
theorem dX6_make_48 : decode cX6_make 48 = .ok (.iaload, 1) := by decide +kernel
theorem dX6_make_49 : decode cX6_make 49 = .ok (.invokevirtual 137, 3) := by decide +kernel
theorem dX6_make_52 : decode cX6_make 52 = .ok (.ifCond .eq 11, 3) := by decide +kernel
theorem dX6_make_55 : decode cX6_make 55 = .ok (.aload_n 0, 1) := by decide +kernel
theorem dX6_make_56 : decode cX6_make 56 = .ok (.iload_n 2, 1) := by decide +kernel
theorem dX6_make_57 : decode cX6_make 57 = .ok (.iload_n 3, 1) := by decide +kernel
theorem dX6_make_58 : decode cX6_make 58 = .ok (.ior, 1) := by decide +kernel
theorem dX6_make_59 : decode cX6_make 59 = .ok (.invokevirtual 140, 3) := by decide +kernel
theorem dX6_make_62 : decode cX6_make 62 = .ok (.ireturn, 1) := by decide +kernel
theorem dX6_make_63 : decode cX6_make 63 = .ok (.iinc 3 (-1), 3) := by decide +kernel
theorem dX6_make_66 : decode cX6_make 66 = .ok (.goto (-32), 3) := by decide +kernel
theorem dX6_make_69 : decode cX6_make 69 = .ok (.iinc 1 1, 3) := by decide +kernel
theorem dX6_make_72 : decode cX6_make 72 = .ok (.goto (-61), 3) := by decide +kernel
theorem dX6_make_75 : decode cX6_make 75 = .ok (.iconst (-1), 1) := by decide +kernel
theorem dX6_make_76 : decode cX6_make 76 = .ok (.ireturn, 1) := by decide +kernel
set_option maxRecDepth 20000 in
theorem ggX6_makes_X6_playersOf : GoodIn wsX6_makes wsX6_playersOf := goodIn_r _ [19, 10, 14, 12, 20, 21, 18, 22, 29, 30, 31, 32, 33, 34, 35, 36, 37, 38, 39, 40, 41, 42, 43, 44, 45, 46, 47, 48, 49, 50, 51, 52] (by decide +kernel) (by decide +kernel)
set_option maxRecDepth 20000 in
theorem gX6_makes_X6_playersOf : GoodIn wsX6_makes (wsV RX6 122 RX6 yX6_playersOf wsX6_playersOf) := goodIn_app (goodIn_of _ (by decide +kernel)) ggX6_makes_X6_playersOf
set_option maxRecDepth 20000 in
theorem ggX6_makes_X6_has : GoodIn wsX6_makes wsX6_has := goodIn_r _ [22] (by decide +kernel) (by decide +kernel)
set_option maxRecDepth 20000 in
theorem gX6_makes_X6_has : GoodIn wsX6_makes (va_wsS RX6 80 yX6_has wsX6_has) := goodIn_app (goodIn_of _ (by decide +kernel)) ggX6_makes_X6_has
set_option maxRecDepth 20000 in
theorem ggX6_makes_X6_become : GoodIn wsX6_makes wsX6_become := goodIn_r _ [26, 27, 28, 20, 21, 18, 22, 29, 30, 31, 32, 33, 34, 35, 36, 37, 38, 39, 40, 41, 42, 43, 44, 45, 46, 47, 48, 49, 50, 51, 52] (by decide +kernel) (by decide +kernel)
set_option maxRecDepth 20000 in
theorem gX6_makes_X6_become : GoodIn wsX6_makes (wsV RX6 91 RX6 yX6_become wsX6_become) := goodIn_app (goodIn_of _ (by decide +kernel)) ggX6_makes_X6_become
theorem dX6_makes_0 : decode cX6_makes 0 = .ok (.aload_n 0, 1) := by decide +kernel
theorem dX6_makes_1 : decode cX6_makes 1 = .ok (.getfield 41, 3) := by decide +kernel
theorem dX6_makes_4 : decode cX6_makes 4 = .ok (.iconst 2, 1) := by decide +kernel
theorem dX6_makes_5 : decode cX6_makes 5 = .ok (.aload_n 0, 1) := by decide +kernel
theorem dX6_makes_6 : decode cX6_makes 6 = .ok (.getfield 73, 3) := by decide +kernel
theorem dX6_makes_9 : decode cX6_makes 9 = .ok (.imul, 1) := by decide +kernel
theorem dX6_makes_10 : decode cX6_makes 10 = .ok (.aload_n 0, 1) := by decide +kernel
theorem dX6_makes_11 : decode cX6_makes 11 = .ok (.aload_n 0, 1) := by decide +kernel
theorem dX6_makes_12 : decode cX6_makes 12 = .ok (.getfield 119, 3) := by decide +kernel
theorem dX6_makes_15 : decode cX6_makes 15 = .ok (.invokevirtual 122, 3) := by decide +kernel
theorem dX6_makes_18 : decode cX6_makes 18 = .ok (.iastore, 1) := by decide +kernel
theorem dX6_makes_19 : decode cX6_makes 19 = .ok (.aload_n 0, 1) := by decide +kernel
theorem dX6_makes_20 : decode cX6_makes 20 = .ok (.getfield 41, 3) := by decide +kernel
theorem dX6_makes_23 : decode cX6_makes 23 = .ok (.iconst 2, 1) := by decide +kernel
theorem dX6_makes_24 : decode cX6_makes 24 = .ok (.aload_n 0, 1) := by decide +kernel
theorem dX6_makes_25 : decode cX6_makes 25 = .ok (.getfield 73, 3) := by decide +kernel
theorem dX6_makes_28 : decode cX6_makes 28 = .ok (.imul, 1) := by decide +kernel
theorem dX6_makes_29 : decode cX6_makes 29 = .ok (.iconst 1, 1) := by decide +kernel
theorem dX6_makes_30 : decode cX6_makes 30 = .ok (.iadd, 1) := by decide +kernel
theorem dX6_makes_31 : decode cX6_makes 31 = .ok (.aload_n 0, 1) := by decide +kernel
theorem dX6_makes_32 : decode cX6_makes 32 = .ok (.iload_n 1, 1) := by decide +kernel
theorem dX6_makes_33 : decode cX6_makes 33 = .ok (.aload_n 0, 1) := by decide +kernel
theorem dX6_makes_34 : decode cX6_makes 34 = .ok (.getfield 119, 3) := by decide +kernel
theorem dX6_makes_37 : decode cX6_makes 37 = .ok (.iconst (-1), 1) := by decide +kernel
theorem dX6_makes_38 : decode cX6_makes 38 = .ok (.ixor, 1) := by decide +kernel
theorem dX6_makes_39 : decode cX6_makes 39 = .ok (.iand, 1) := by decide +kernel
theorem dX6_makes_40 : decode cX6_makes 40 = .ok (.invokevirtual 122, 3) := by decide +kernel
theorem dX6_makes_43 : decode cX6_makes 43 = .ok (.iastore, 1) := by decide +kernel
theorem dX6_makes_44 : decode cX6_makes 44 = .ok (.aload_n 0, 1) := by decide +kernel
theorem dX6_makes_45 : decode cX6_makes 45 = .ok (.getfield 44, 3) := by decide +kernel
theorem dX6_makes_48 : decode cX6_makes 48 = .ok (.aload_n 0, 1) := by decide +kernel
theorem dX6_makes_49 : decode cX6_makes 49 = .ok (.getfield 73, 3) := by decide +kernel
theorem dX6_makes_52 : decode cX6_makes 52 = .ok (.aload_n 0, 1) := by decide +kernel
theorem dX6_makes_53 : decode cX6_makes 53 = .ok (.getfield 128, 3) := by decide +kernel
theorem dX6_makes_56 : decode cX6_makes 56 = .ok (.iastore, 1) := by decide +kernel
theorem dX6_makes_57 : decode cX6_makes 57 = .ok (.aload_n 0, 1) := by decide +kernel
theorem dX6_makes_58 : decode cX6_makes 58 = .ok (.getfield 47, 3) := by decide +kernel
theorem dX6_makes_61 : decode cX6_makes 61 = .ok (.aload_n 0, 1) := by decide +kernel
theorem dX6_makes_62 : decode cX6_makes 62 = .ok (.getfield 73, 3) := by decide +kernel
theorem dX6_makes_65 : decode cX6_makes 65 = .ok (.aload_n 0, 1) := by decide +kernel
theorem dX6_makes_66 : decode cX6_makes 66 = .ok (.getfield 88, 3) := by decide +kernel
theorem dX6_makes_69 : decode cX6_makes 69 = .ok (.iastore, 1) := by decide +kernel
theorem dX6_makes_70 : decode cX6_makes 70 = .ok (.aload_n 0, 1) := by decide +kernel
theorem dX6_makes_71 : decode cX6_makes 71 = .ok (.getfield 50, 3) := by decide +kernel
theorem dX6_makes_74 : decode cX6_makes 74 = .ok (.aload_n 0, 1) := by decide +kernel
theorem dX6_makes_75 : decode cX6_makes 75 = .ok (.getfield 73, 3) := by decide +kernel
theorem dX6_makes_78 : decode cX6_makes 78 = .ok (.iconst 0, 1) := by decide +kernel
theorem dX6_makes_79 : decode cX6_makes 79 = .ok (.iastore, 1) := by decide +kernel
theorem dX6_makes_80 : decode cX6_makes 80 = .ok (.aload_n 0, 1) := by decide +kernel
theorem dX6_makes_81 : decode cX6_makes 81 = .ok (.getfield 53, 3) := by decide +kernel
theorem dX6_makes_84 : decode cX6_makes 84 = .ok (.aload_n 0, 1) := by decide +kernel
theorem dX6_makes_85 : decode cX6_makes 85 = .ok (.getfield 73, 3) := by decide +kernel
theorem dX6_makes_88 : decode cX6_makes 88 = .ok (.iconst 0, 1) := by decide +kernel
theorem dX6_makes_89 : decode cX6_makes 89 = .ok (.iastore, 1) := by decide +kernel
theorem dX6_makes_90 : decode cX6_makes 90 = .ok (.iconst 0, 1) := by decide +kernel
theorem dX6_makes_91 : decode cX6_makes 91 = .ok (.istore_n 2, 1) := by decide +kernel
theorem dX6_makes_92 : decode cX6_makes 92 = .ok (.iload_n 2, 1) := by decide +kernel
theorem dX6_makes_93 : decode cX6_makes 93 = .ok (.aload_n 0, 1) := by decide +kernel
theorem dX6_makes_94 : decode cX6_makes 94 = .ok (.getfield 116, 3) := by decide +kernel
theorem dX6_makes_97 : decode cX6_makes 97 = .ok (.if_icmp .ge 67, 3) := by decide +kernel
theorem dX6_makes_100 : decode cX6_makes 100 = .ok (.iload_n 1, 1) := by decide +kernel
theorem dX6_makes_101 : decode cX6_makes 101 = .ok (.aload_n 0, 1) := by decide +kernel
theorem dX6_makes_102 : decode cX6_makes 102 = .ok (.getfield 116, 3) := by decide +kernel
theorem dX6_makes_105 : decode cX6_makes 105 = .ok (.iconst 1, 1) := by decide +kernel
theorem dX6_makes_106 : decode cX6_makes 106 = .ok (.isub, 1) := by decide +kernel
theorem dX6_makes_107 : decode cX6_makes 107 = .ok (.iload_n 2, 1) := by decide +kernel
theorem dX6_makes_108 : decode cX6_makes 108 = .ok (.isub, 1) := by decide +kernel
theorem dX6_makes_109 : decode cX6_makes 109 = .ok (.invokestatic 80, 3) := by decide +kernel
theorem dX6_makes_112 : decode cX6_makes 112 = .ok (.ifCond .eq 46, 3) := by decide +kernel
theorem dX6_makes_115 : decode cX6_makes 115 = .ok (.aload_n 0, 1) := by decide +kernel
theorem dX6_makes_116 : decode cX6_makes 116 = .ok (.getfield 34, 3) := by decide +kernel
theorem dX6_makes_119 : decode cX6_makes 119 = .ok (.aload_n 0, 1) := by decide +kernel
theorem dX6_makes_120 : decode cX6_makes 120 = .ok (.getfield 56, 3) := by decide +kernel
theorem dX6_makes_123 : decode cX6_makes 123 = .ok (.iload_n 2, 1) := by decide +kernel
theorem dX6_makes_124 : decode cX6_makes 124 = .ok (.iaload, 1) := by decide +kernel
theorem dX6_makes_125 : decode cX6_makes 125 = .ok (.iconst 0, 1) := by decide +kernel
theorem dX6_makes_126 : decode cX6_makes 126 = .ok (.bastore, 1) := by decide +kernel
theorem dX6_makes_127 : decode cX6_makes 127 = .ok (.aload_n 0, 1) := by decide +kernel
theorem dX6_makes_128 : decode cX6_makes 128 = .ok (.getfield 38, 3) := by decide +kernel
theorem dX6_makes_131 : decode cX6_makes 131 = .ok (.aload_n 0, 1) := by decide +kernel
theorem dX6_makes_132 : decode cX6_makes 132 = .ok (.getfield 56, 3) := by decide +kernel
theorem dX6_makes_135 : decode cX6_makes 135 = .ok (.iload_n 2, 1) := by decide +kernel
theorem dX6_makes_136 : decode cX6_makes 136 = .ok (.iaload, 1) := by decide +kernel
theorem dX6_makes_137 : decode cX6_makes 137 = .ok (.aload_n 0, 1) := by decide +kernel
theorem dX6_makes_138 : decode cX6_makes 138 = .ok (.getfield 73, 3) := by decide +kernel
theorem dX6_makes_141 : decode cX6_makes 141 = .ok (.iastore, 1) := by decide +kernel
theorem dX6_makes_142 : decode cX6_makes 142 = .ok (.aload_n 0, 1) := by decide +kernel
theorem dX6_makes_143 : decode cX6_makes 143 = .ok (.aload_n 0, 1) := by decide +kernel
theorem dX6_makes_144 : decode cX6_makes 144 = .ok (.getfield 28, 3) := by decide +kernel
theorem dX6_makes_147 : decode cX6_makes 147 = .ok (.aload_n 0, 1) := by decide +kernel
theorem dX6_makes_148 : decode cX6_makes 148 = .ok (.getfield 56, 3) := by decide +kernel
theorem dX6_makes_151 : decode cX6_makes 151 = .ok (.iload_n 2, 1) := by decide +kernel
theorem dX6_makes_152 : decode cX6_makes 152 = .ok (.iaload, 1) := by decide +kernel
theorem dX6_makes_153 : decode cX6_makes 153 = .ok (.iaload, 1) := by decide +kernel
theorem dX6_makes_154 : decode cX6_makes 154 = .ok (.iconst 2, 1) := by decide +kernel
theorem dX6_makes_155 : decode cX6_makes 155 = .ok (.invokevirtual 91, 3) := by decide +kernel
theorem dX6_makes_158 : decode cX6_makes 158 = .ok (.iinc 2 1, 3) := by decide +kernel
theorem dX6_makes_161 : decode cX6_makes 161 = .ok (.goto (-69), 3) := by decide +kernel
theorem dX6_makes_164 : decode cX6_makes 164 = .ok (.aload_n 0, 1) := by decide +kernel
theorem dX6_makes_165 : decode cX6_makes 165 = .ok (.dup, 1) := by decide +kernel
theorem dX6_makes_166 : decode cX6_makes 166 = .ok (.getfield 73, 3) := by decide +kernel
theorem dX6_makes_169 : decode cX6_makes 169 = .ok (.iconst 1, 1) := by decide +kernel
theorem dX6_makes_170 : decode cX6_makes 170 = .ok (.iadd, 1) := by decide +kernel
theorem dX6_makes_171 : decode cX6_makes 171 = .ok (.putfield 73, 3) := by decide +kernel
theorem dX6_makes_174 : decode cX6_makes 174 = .ok (.aload_n 0, 1) := by decide +kernel
theorem dX6_makes_175 : decode cX6_makes 175 = .ok (.getfield 73, 3) := by decide +kernel
theorem dX6_makes_178 : decode cX6_makes 178 = .ok (.iconst 1, 1) := by decide +kernel
theorem dX6_makes_179 : decode cX6_makes 179 = .ok (.isub, 1) := by decide +kernel
theorem dX6_makes_180 : decode cX6_makes 180 = .ok (.ireturn, 1) := by decide +kernel
theorem dX6_allOf_0 : decode cX6_allOf 0 = .ok (.aload_n 0, 1) := by decide +kernel
theorem dX6_allOf_1 : decode cX6_allOf 1 = .ok (.getfield 41, 3) := by decide +kernel
theorem dX6_allOf_4 : decode cX6_allOf 4 = .ok (.iconst 2, 1) := by decide +kernel
theorem dX6_allOf_5 : decode cX6_allOf 5 = .ok (.iload_n 1, 1) := by decide +kernel
theorem dX6_allOf_6 : decode cX6_allOf 6 = .ok (.imul, 1) := by decide +kernel
theorem dX6_allOf_7 : decode cX6_allOf 7 = .ok (.iaload, 1) := by decide +kernel
theorem dX6_allOf_8 : decode cX6_allOf 8 = .ok (.aload_n 0, 1) := by decide +kernel
theorem dX6_allOf_9 : decode cX6_allOf 9 = .ok (.getfield 41, 3) := by decide +kernel
theorem dX6_allOf_12 : decode cX6_allOf 12 = .ok (.iconst 2, 1) := by decide +kernel
theorem dX6_allOf_13 : decode cX6_allOf 13 = .ok (.iload_n 1, 1) := by decide +kernel
theorem dX6_allOf_14 : decode cX6_allOf 14 = .ok (.imul, 1) := by decide +kernel
theorem dX6_allOf_15 : decode cX6_allOf 15 = .ok (.iconst 1, 1) := by decide +kernel
theorem dX6_allOf_16 : decode cX6_allOf 16 = .ok (.iadd, 1) := by decide +kernel
theorem dX6_allOf_17 : decode cX6_allOf 17 = .ok (.iaload, 1) := by decide +kernel
theorem dX6_allOf_18 : decode cX6_allOf 18 = .ok (.ior, 1) := by decide +kernel
theorem dX6_allOf_19 : decode cX6_allOf 19 = .ok (.ireturn, 1) := by decide +kernel
set_option maxRecDepth 20000 in
theorem ggX6_faultOf_X6_isMatch : GoodIn wsX6_faultOf wsX6_isMatch := goodIn_r _ [7, 8, 9, 10, 6, 11, 25, 26, 27, 28, 29, 30, 31, 32, 33, 34, 35, 36, 37, 38, 39, 40, 41, 42, 43, 44, 45, 46, 47, 48] (by decide +kernel) (by decide +kernel)
set_option maxRecDepth 20000 in
theorem gX6_faultOf_X6_isMatch : GoodIn wsX6_faultOf (wsV RX6 143 RX6 yX6_isMatch wsX6_isMatch) := goodIn_app (goodIn_of _ (by decide +kernel)) ggX6_faultOf_X6_isMatch
set_option maxRecDepth 20000 in
theorem ggX6_faultOf_X6_isPlayer : GoodIn wsX6_faultOf wsX6_isPlayer := goodIn_r _ [15, 16, 9, 10, 6, 11, 25, 26, 27, 28, 29, 30, 31, 32, 33, 34, 35, 36, 37, 38, 39, 40, 41, 42, 43, 44, 45, 46, 47, 48] (by decide +kernel) (by decide +kernel)
set_option maxRecDepth 20000 in
theorem gX6_faultOf_X6_isPlayer : GoodIn wsX6_faultOf (wsV RX6 101 RX6 yX6_isPlayer wsX6_isPlayer) := goodIn_app (goodIn_of _ (by decide +kernel)) ggX6_faultOf_X6_isPlayer
set_option maxRecDepth 20000 in
theorem ggX6_faultOf_X6_allOf : GoodIn wsX6_faultOf wsX6_allOf := goodIn_r _ [20, 21, 25, 26, 27, 28, 29, 30, 31, 32, 33, 34, 35, 36, 37, 38, 39, 40, 41, 42, 43, 44, 45, 46, 47, 48] (by decide +kernel) (by decide +kernel)
set_option maxRecDepth 20000 in
theorem gX6_faultOf_X6_allOf : GoodIn wsX6_faultOf (wsV RX6 146 RX6 yX6_allOf wsX6_allOf) := goodIn_app (goodIn_of _ (by decide +kernel)) ggX6_faultOf_X6_allOf
set_option maxRecDepth 20000 in
theorem ggX6_faultOf_X6_has : GoodIn wsX6_faultOf wsX6_has := goodIn_r _ [24] (by decide +kernel) (by decide +kernel)
set_option maxRecDepth 20000 in
theorem gX6_faultOf_X6_has : GoodIn wsX6_faultOf (va_wsS RX6 80 yX6_has wsX6_has) := goodIn_app (goodIn_of _ (by decide +kernel)) ggX6_faultOf_X6_has
theorem dX6_faultOf_0 : decode cX6_faultOf 0 = .ok (.aload_n 0, 1) := by decide +kernel
theorem dX6_faultOf_1 : decode cX6_faultOf 1 = .ok (.iload_n 1, 1) := by decide +kernel
theorem dX6_faultOf_2 : decode cX6_faultOf 2 = .ok (.invokevirtual 143, 3) := by decide +kernel
theorem dX6_faultOf_5 : decode cX6_faultOf 5 = .ok (.ifCond .eq 11, 3) := by decide +kernel
theorem dX6_faultOf_8 : decode cX6_faultOf 8 = .ok (.aload_n 0, 1) := by decide +kernel
theorem dX6_faultOf_9 : decode cX6_faultOf 9 = .ok (.iload_n 2, 1) := by decide +kernel
theorem dX6_faultOf_10 : decode cX6_faultOf 10 = .ok (.invokevirtual 101, 3) := by decide +kernel
theorem dX6_faultOf_13 : decode cX6_faultOf 13 = .ok (.ifCond .ne 5, 3) := by decide +kernel
theorem dX6_faultOf_16 : decode cX6_faultOf 16 = .ok (.iconst 1, 1) := by decide +kernel
theorem dX6_faultOf_17 : decode cX6_faultOf 17 = .ok (.ireturn, 1) := by decide +kernel
theorem dX6_faultOf_18 : decode cX6_faultOf 18 = .ok (.aload_n 0, 1) := by decide +kernel
theorem dX6_faultOf_19 : decode cX6_faultOf 19 = .ok (.getfield 53, 3) := by decide +kernel
theorem dX6_faultOf_22 : decode cX6_faultOf 22 = .ok (.iload_n 1, 1) := by decide +kernel
theorem dX6_faultOf_23 : decode cX6_faultOf 23 = .ok (.iaload, 1) := by decide +kernel
theorem dX6_faultOf_24 : decode cX6_faultOf 24 = .ok (.ifCond .ne 28, 3) := by decide +kernel
theorem dX6_faultOf_27 : decode cX6_faultOf 27 = .ok (.aload_n 0, 1) := by decide +kernel
theorem dX6_faultOf_28 : decode cX6_faultOf 28 = .ok (.iload_n 1, 1) := by decide +kernel
theorem dX6_faultOf_29 : decode cX6_faultOf 29 = .ok (.invokevirtual 146, 3) := by decide +kernel
theorem dX6_faultOf_32 : decode cX6_faultOf 32 = .ok (.aload_n 0, 1) := by decide +kernel
theorem dX6_faultOf_33 : decode cX6_faultOf 33 = .ok (.getfield 50, 3) := by decide +kernel
theorem dX6_faultOf_36 : decode cX6_faultOf 36 = .ok (.iload_n 1, 1) := by decide +kernel
theorem dX6_faultOf_37 : decode cX6_faultOf 37 = .ok (.iaload, 1) := by decide +kernel
theorem dX6_faultOf_38 : decode cX6_faultOf 38 = .ok (.iconst (-1), 1) := by decide +kernel
theorem dX6_faultOf_39 : decode cX6_faultOf 39 = .ok (.ixor, 1) := by decide +kernel
theorem dX6_faultOf_40 : decode cX6_faultOf 40 = .ok (.iand, 1) := by decide +kernel
theorem dX6_faultOf_41 : decode cX6_faultOf 41 = .ok (.iload_n 2, 1) := by decide +kernel
theorem dX6_faultOf_42 : decode cX6_faultOf 42 = .ok (.invokestatic 80, 3) := by decide +kernel
theorem dX6_faultOf_45 : decode cX6_faultOf 45 = .ok (.ifCond .eq 7, 3) := by decide +kernel
theorem dX6_faultOf_48 : decode cX6_faultOf 48 = .ok (.iconst 0, 1) := by decide +kernel
theorem dX6_faultOf_49 : decode cX6_faultOf 49 = .ok (.goto 4, 3) := by decide +kernel
theorem dX6_faultOf_52 : decode cX6_faultOf 52 = .ok (.iconst 2, 1) := by decide +kernel
theorem dX6_faultOf_53 : decode cX6_faultOf 53 = .ok (.ireturn, 1) := by decide +kernel
set_option maxRecDepth 20000 in
theorem ggX6_accept_X6_faultOf : GoodIn wsX6_accept wsX6_faultOf := goodIn_r _ [7, 2, 1, 8, 9, 10, 6, 11, 12, 13, 14, 15, 16, 17, 18, 19, 20, 21, 22, 23, 24, 25, 26, 27, 28, 34, 35, 36, 37, 38, 39, 40, 41, 42, 43, 44, 45, 46, 47, 48, 49, 50, 51, 52, 53, 54, 55, 56, 57] (by decide +kernel) (by decide +kernel)
set_option maxRecDepth 20000 in
theorem gX6_accept_X6_faultOf : GoodIn wsX6_accept (wsV RX6 149 RX6 yX6_faultOf wsX6_faultOf) := goodIn_app (goodIn_of _ (by decide +kernel)) ggX6_accept_X6_faultOf
set_option maxRecDepth 20000 in
theorem ggX6_accept_X6_can : GoodIn wsX6_accept wsX6_can := goodIn_r _ [32, 33, 34, 35, 36, 37, 38, 39, 40, 41, 42, 43, 44, 45, 46, 47, 48, 49, 50, 51, 52, 53, 54, 55, 56, 57] (by decide +kernel) (by decide +kernel)
set_option maxRecDepth 20000 in
theorem gX6_accept_X6_can : GoodIn wsX6_accept (wsV RX6 76 RX6 yX6_can wsX6_can) := goodIn_app (goodIn_of _ (by decide +kernel)) ggX6_accept_X6_can
set_option maxRecDepth 20000 in
theorem ggX6_accept_X6_allOf : GoodIn wsX6_accept wsX6_allOf := goodIn_r _ [24, 25, 34, 35, 36, 37, 38, 39, 40, 41, 42, 43, 44, 45, 46, 47, 48, 49, 50, 51, 52, 53, 54, 55, 56, 57] (by decide +kernel) (by decide +kernel)
set_option maxRecDepth 20000 in
theorem gX6_accept_X6_allOf : GoodIn wsX6_accept (wsV RX6 146 RX6 yX6_allOf wsX6_allOf) := goodIn_app (goodIn_of _ (by decide +kernel)) ggX6_accept_X6_allOf
theorem dX6_accept_0 : decode cX6_accept 0 = .ok (.aload_n 0, 1) := by decide +kernel
theorem dX6_accept_1 : decode cX6_accept 1 = .ok (.aload_n 0, 1) := by decide +kernel
theorem dX6_accept_2 : decode cX6_accept 2 = .ok (.iload_n 1, 1) := by decide +kernel
theorem dX6_accept_3 : decode cX6_accept 3 = .ok (.iload_n 2, 1) := by decide +kernel
theorem dX6_accept_4 : decode cX6_accept 4 = .ok (.invokevirtual 149, 3) := by decide +kernel
theorem dX6_accept_7 : decode cX6_accept 7 = .ok (.invokevirtual 76, 3) := by decide +kernel
theorem dX6_accept_10 : decode cX6_accept 10 = .ok (.ifCond .ne 5, 3) := by decide +kernel
theorem dX6_accept_13 : decode cX6_accept 13 = .ok (.iconst 0, 1) := by decide +kernel
theorem dX6_accept_14 : decode cX6_accept 14 = .ok (.ireturn, 1) := by decide +kernel
theorem dX6_accept_15 : decode cX6_accept 15 = .ok (.aload_n 0, 1) := by decide +kernel
theorem dX6_accept_16 : decode cX6_accept 16 = .ok (.getfield 50, 3) := by decide +kernel
theorem dX6_accept_19 : decode cX6_accept 19 = .ok (.iload_n 1, 1) := by decide +kernel
theorem dX6_accept_20 : decode cX6_accept 20 = .ok (.dup2, 1) := by decide +kernel
theorem dX6_accept_21 : decode cX6_accept 21 = .ok (.iaload, 1) := by decide +kernel
theorem dX6_accept_22 : decode cX6_accept 22 = .ok (.iconst 1, 1) := by decide +kernel
theorem dX6_accept_23 : decode cX6_accept 23 = .ok (.iload_n 2, 1) := by decide +kernel
theorem dX6_accept_24 : decode cX6_accept 24 = .ok (.ishl, 1) := by decide +kernel
theorem dX6_accept_25 : decode cX6_accept 25 = .ok (.ior, 1) := by decide +kernel
theorem dX6_accept_26 : decode cX6_accept 26 = .ok (.iastore, 1) := by decide +kernel
theorem dX6_accept_27 : decode cX6_accept 27 = .ok (.aload_n 0, 1) := by decide +kernel
theorem dX6_accept_28 : decode cX6_accept 28 = .ok (.getfield 53, 3) := by decide +kernel
theorem dX6_accept_31 : decode cX6_accept 31 = .ok (.iload_n 1, 1) := by decide +kernel
theorem dX6_accept_32 : decode cX6_accept 32 = .ok (.aload_n 0, 1) := by decide +kernel
theorem dX6_accept_33 : decode cX6_accept 33 = .ok (.getfield 50, 3) := by decide +kernel
theorem dX6_accept_36 : decode cX6_accept 36 = .ok (.iload_n 1, 1) := by decide +kernel
theorem dX6_accept_37 : decode cX6_accept 37 = .ok (.iaload, 1) := by decide +kernel
theorem dX6_accept_38 : decode cX6_accept 38 = .ok (.aload_n 0, 1) := by decide +kernel
theorem dX6_accept_39 : decode cX6_accept 39 = .ok (.iload_n 1, 1) := by decide +kernel
theorem dX6_accept_40 : decode cX6_accept 40 = .ok (.invokevirtual 146, 3) := by decide +kernel
theorem dX6_accept_43 : decode cX6_accept 43 = .ok (.if_icmp .ne 7, 3) := by decide +kernel
theorem dX6_accept_46 : decode cX6_accept 46 = .ok (.iconst 1, 1) := by decide +kernel
theorem dX6_accept_47 : decode cX6_accept 47 = .ok (.goto 4, 3) := by decide +kernel
theorem dX6_accept_50 : decode cX6_accept 50 = .ok (.iconst 0, 1) := by decide +kernel
theorem dX6_accept_51 : decode cX6_accept 51 = .ok (.iastore, 1) := by decide +kernel
theorem dX6_accept_52 : decode cX6_accept 52 = .ok (.aload_n 0, 1) := by decide +kernel
theorem dX6_accept_53 : decode cX6_accept 53 = .ok (.getfield 53, 3) := by decide +kernel
theorem dX6_accept_56 : decode cX6_accept 56 = .ok (.iload_n 1, 1) := by decide +kernel
theorem dX6_accept_57 : decode cX6_accept 57 = .ok (.iaload, 1) := by decide +kernel
theorem dX6_accept_58 : decode cX6_accept 58 = .ok (.iconst 1, 1) := by decide +kernel
theorem dX6_accept_59 : decode cX6_accept 59 = .ok (.if_icmp .ne 7, 3) := by decide +kernel
theorem dX6_accept_62 : decode cX6_accept 62 = .ok (.iconst 1, 1) := by decide +kernel
theorem dX6_accept_63 : decode cX6_accept 63 = .ok (.goto 4, 3) := by decide +kernel
theorem dX6_accept_66 : decode cX6_accept 66 = .ok (.iconst 0, 1) := by decide +kernel
theorem dX6_accept_67 : decode cX6_accept 67 = .ok (.ireturn, 1) := by decide +kernel
theorem dX6_bars_0 : decode cX6_bars 0 = .ok (.aload_n 0, 1) := by decide +kernel
theorem dX6_bars_1 : decode cX6_bars 1 = .ok (.getfield 19, 3) := by decide +kernel
theorem dX6_bars_4 : decode cX6_bars 4 = .ok (.iload_n 1, 1) := by decide +kernel
theorem dX6_bars_5 : decode cX6_bars 5 = .ok (.dup2, 1) := by decide +kernel
theorem dX6_bars_6 : decode cX6_bars 6 = .ok (.iaload, 1) := by decide +kernel
theorem dX6_bars_7 : decode cX6_bars 7 = .ok (.aload_n 0, 1) := by decide +kernel
theorem dX6_bars_8 : decode cX6_bars 8 = .ok (.getfield 19, 3) := by decide +kernel
theorem dX6_bars_11 : decode cX6_bars 11 = .ok (.iload_n 1, 1) := by decide +kernel
theorem dX6_bars_12 : decode cX6_bars 12 = .ok (.iaload, 1) := by decide +kernel
theorem dX6_bars_13 : decode cX6_bars 13 = .ok (.iconst 5, 1) := by decide +kernel
theorem dX6_bars_14 : decode cX6_bars 14 = .ok (.if_icmp .ge 7, 3) := by decide +kernel
theorem dX6_bars_17 : decode cX6_bars 17 = .ok (.iconst 1, 1) := by decide +kernel
theorem dX6_bars_18 : decode cX6_bars 18 = .ok (.goto 4, 3) := by decide +kernel
theorem dX6_bars_21 : decode cX6_bars 21 = .ok (.iconst 0, 1) := by decide +kernel
theorem dX6_bars_22 : decode cX6_bars 22 = .ok (.iadd, 1) := by decide +kernel
theorem dX6_bars_23 : decode cX6_bars 23 = .ok (.iastore, 1) := by decide +kernel
theorem dX6_bars_24 : decode cX6_bars 24 = .ok (.iconst 5, 1) := by decide +kernel
theorem dX6_bars_25 : decode cX6_bars 25 = .ok (.aload_n 0, 1) := by decide +kernel
theorem dX6_bars_26 : decode cX6_bars 26 = .ok (.getfield 19, 3) := by decide +kernel
theorem dX6_bars_29 : decode cX6_bars 29 = .ok (.iload_n 1, 1) := by decide +kernel
theorem dX6_bars_30 : decode cX6_bars 30 = .ok (.iaload, 1) := by decide +kernel
theorem dX6_bars_31 : decode cX6_bars 31 = .ok (.iconst 1, 1) := by decide +kernel
theorem dX6_bars_32 : decode cX6_bars 32 = .ok (.isub, 1) := by decide +kernel
theorem dX6_bars_33 : decode cX6_bars 33 = .ok (.ishl, 1) := by decide +kernel
theorem dX6_bars_34 : decode cX6_bars 34 = .ok (.istore_n 2, 1) := by decide +kernel
theorem dX6_bars_35 : decode cX6_bars 35 = .ok (.aload_n 0, 1) := by decide +kernel
theorem dX6_bars_36 : decode cX6_bars 36 = .ok (.getfield 25, 3) := by decide +kernel
theorem dX6_bars_39 : decode cX6_bars 39 = .ok (.iload_n 1, 1) := by decide +kernel
theorem dX6_bars_40 : decode cX6_bars 40 = .ok (.aload_n 0, 1) := by decide +kernel
theorem dX6_bars_41 : decode cX6_bars 41 = .ok (.getfield 88, 3) := by decide +kernel
theorem dX6_bars_44 : decode cX6_bars 44 = .ok (.iload_n 2, 1) := by decide +kernel
theorem dX6_bars_45 : decode cX6_bars 45 = .ok (.iadd, 1) := by decide +kernel
theorem dX6_bars_46 : decode cX6_bars 46 = .ok (.iastore, 1) := by decide +kernel
theorem dX6_bars_47 : decode cX6_bars 47 = .ok (.iload_n 2, 1) := by decide +kernel
theorem dX6_bars_48 : decode cX6_bars 48 = .ok (.ireturn, 1) := by decide +kernel
set_option maxRecDepth 20000 in
theorem ggX6_ends_X6_become : GoodIn wsX6_ends wsX6_become := goodIn_r _ [10, 11, 12, 13, 14, 9, 15, 16, 17, 18, 19, 20, 21, 22, 23, 24, 25, 26, 27, 28, 29, 30, 31, 32, 33, 34, 35, 36, 37, 38, 39] (by decide +kernel) (by decide +kernel)
set_option maxRecDepth 20000 in
theorem gX6_ends_X6_become : GoodIn wsX6_ends (wsV RX6 91 RX6 yX6_become wsX6_become) := goodIn_app (goodIn_of _ (by decide +kernel)) ggX6_ends_X6_become
theorem dX6_ends_0 : decode cX6_ends 0 = .ok (.aload_n 0, 1) := by decide +kernel
theorem dX6_ends_1 : decode cX6_ends 1 = .ok (.getfield 53, 3) := by decide +kernel
theorem dX6_ends_4 : decode cX6_ends 4 = .ok (.iload_n 1, 1) := by decide +kernel
theorem dX6_ends_5 : decode cX6_ends 5 = .ok (.iconst 2, 1) := by decide +kernel
theorem dX6_ends_6 : decode cX6_ends 6 = .ok (.iastore, 1) := by decide +kernel
theorem dX6_ends_7 : decode cX6_ends 7 = .ok (.iconst 0, 1) := by decide +kernel
theorem dX6_ends_8 : decode cX6_ends 8 = .ok (.istore_n 3, 1) := by decide +kernel
theorem dX6_ends_9 : decode cX6_ends 9 = .ok (.iload_n 3, 1) := by decide +kernel
theorem dX6_ends_10 : decode cX6_ends 10 = .ok (.aload_n 0, 1) := by decide +kernel
theorem dX6_ends_11 : decode cX6_ends 11 = .ok (.getfield 70, 3) := by decide +kernel
theorem dX6_ends_14 : decode cX6_ends 14 = .ok (.if_icmp .ge 72, 3) := by decide +kernel
theorem dX6_ends_17 : decode cX6_ends 17 = .ok (.aload_n 0, 1) := by decide +kernel
theorem dX6_ends_18 : decode cX6_ends 18 = .ok (.getfield 38, 3) := by decide +kernel
theorem dX6_ends_21 : decode cX6_ends 21 = .ok (.iload_n 3, 1) := by decide +kernel
theorem dX6_ends_22 : decode cX6_ends 22 = .ok (.iaload, 1) := by decide +kernel
theorem dX6_ends_23 : decode cX6_ends 23 = .ok (.iload_n 1, 1) := by decide +kernel
theorem dX6_ends_24 : decode cX6_ends 24 = .ok (.if_icmp .ne 56, 3) := by decide +kernel
theorem dX6_ends_27 : decode cX6_ends 27 = .ok (.aload_n 0, 1) := by decide +kernel
theorem dX6_ends_28 : decode cX6_ends 28 = .ok (.getfield 34, 3) := by decide +kernel
theorem dX6_ends_31 : decode cX6_ends 31 = .ok (.iload_n 3, 1) := by decide +kernel
theorem dX6_ends_32 : decode cX6_ends 32 = .ok (.aload_n 0, 1) := by decide +kernel
theorem dX6_ends_33 : decode cX6_ends 33 = .ok (.getfield 28, 3) := by decide +kernel
theorem dX6_ends_36 : decode cX6_ends 36 = .ok (.iload_n 3, 1) := by decide +kernel
theorem dX6_ends_37 : decode cX6_ends 37 = .ok (.iaload, 1) := by decide +kernel
theorem dX6_ends_38 : decode cX6_ends 38 = .ok (.iload_n 2, 1) := by decide +kernel
theorem dX6_ends_39 : decode cX6_ends 39 = .ok (.iand, 1) := by decide +kernel
theorem dX6_ends_40 : decode cX6_ends 40 = .ok (.ifCond .ne 7, 3) := by decide +kernel
theorem dX6_ends_43 : decode cX6_ends 43 = .ok (.iconst 1, 1) := by decide +kernel
theorem dX6_ends_44 : decode cX6_ends 44 = .ok (.goto 4, 3) := by decide +kernel
theorem dX6_ends_47 : decode cX6_ends 47 = .ok (.iconst 0, 1) := by decide +kernel
theorem dX6_ends_48 : decode cX6_ends 48 = .ok (.bastore, 1) := by decide +kernel
theorem dX6_ends_49 : decode cX6_ends 49 = .ok (.aload_n 0, 1) := by decide +kernel
theorem dX6_ends_50 : decode cX6_ends 50 = .ok (.getfield 38, 3) := by decide +kernel
theorem dX6_ends_53 : decode cX6_ends 53 = .ok (.iload_n 3, 1) := by decide +kernel
theorem dX6_ends_54 : decode cX6_ends 54 = .ok (.iconst (-1), 1) := by decide +kernel
theorem dX6_ends_55 : decode cX6_ends 55 = .ok (.iastore, 1) := by decide +kernel
theorem dX6_ends_56 : decode cX6_ends 56 = .ok (.aload_n 0, 1) := by decide +kernel
theorem dX6_ends_57 : decode cX6_ends 57 = .ok (.aload_n 0, 1) := by decide +kernel
theorem dX6_ends_58 : decode cX6_ends 58 = .ok (.getfield 28, 3) := by decide +kernel
theorem dX6_ends_61 : decode cX6_ends 61 = .ok (.iload_n 3, 1) := by decide +kernel
theorem dX6_ends_62 : decode cX6_ends 62 = .ok (.iaload, 1) := by decide +kernel
theorem dX6_ends_63 : decode cX6_ends 63 = .ok (.aload_n 0, 1) := by decide +kernel
theorem dX6_ends_64 : decode cX6_ends 64 = .ok (.getfield 34, 3) := by decide +kernel
theorem dX6_ends_67 : decode cX6_ends 67 = .ok (.iload_n 3, 1) := by decide +kernel
theorem dX6_ends_68 : decode cX6_ends 68 = .ok (.baload, 1) := by decide +kernel
theorem dX6_ends_69 : decode cX6_ends 69 = .ok (.ifCond .eq 7, 3) := by decide +kernel
theorem dX6_ends_72 : decode cX6_ends 72 = .ok (.iconst 1, 1) := by decide +kernel
theorem dX6_ends_73 : decode cX6_ends 73 = .ok (.goto 4, 3) := by decide +kernel
theorem dX6_ends_76 : decode cX6_ends 76 = .ok (.iconst 0, 1) := by decide +kernel
theorem dX6_ends_77 : decode cX6_ends 77 = .ok (.invokevirtual 91, 3) := by decide +kernel
theorem dX6_ends_80 : decode cX6_ends 80 = .ok (.iinc 3 1, 3) := by decide +kernel
theorem dX6_ends_83 : decode cX6_ends 83 = .ok (.goto (-74), 3) := by decide +kernel
theorem dX6_ends_86 : decode cX6_ends 86 = .ok (.return_, 1) := by decide +kernel
set_option maxRecDepth 20000 in
theorem ggX6_decline_X6_faultOf : GoodIn wsX6_decline wsX6_faultOf := goodIn_r _ [5, 6, 7, 8, 9, 10, 4, 11, 12, 13, 14, 15, 16, 17, 18, 19, 20, 21, 22, 23, 24, 25, 26, 27, 28, 54, 55, 56, 57, 58, 59, 60, 61, 62, 63, 64, 65, 66, 67, 68, 69, 70, 71, 72, 73, 74, 75, 76, 77] (by decide +kernel) (by decide +kernel)
set_option maxRecDepth 20000 in
theorem gX6_decline_X6_faultOf : GoodIn wsX6_decline (wsV RX6 149 RX6 yX6_faultOf wsX6_faultOf) := goodIn_app (goodIn_of _ (by decide +kernel)) ggX6_decline_X6_faultOf
set_option maxRecDepth 20000 in
theorem ggX6_decline_X6_can : GoodIn wsX6_decline wsX6_can := goodIn_r _ [32, 33, 54, 55, 56, 57, 58, 59, 60, 61, 62, 63, 64, 65, 66, 67, 68, 69, 70, 71, 72, 73, 74, 75, 76, 77] (by decide +kernel) (by decide +kernel)
set_option maxRecDepth 20000 in
theorem gX6_decline_X6_can : GoodIn wsX6_decline (wsV RX6 76 RX6 yX6_can wsX6_can) := goodIn_app (goodIn_of _ (by decide +kernel)) ggX6_decline_X6_can
set_option maxRecDepth 20000 in
theorem ggX6_decline_X6_ends : GoodIn wsX6_decline wsX6_ends := goodIn_r _ [37, 6, 38, 39, 40, 41, 42, 43, 44, 4, 45, 20, 46, 26, 27, 28, 54, 55, 56, 57, 58, 59, 60, 61, 62, 63, 64, 65, 66, 67, 68, 69, 70, 71, 72, 73, 74, 75, 76, 77] (by decide +kernel) (by decide +kernel)
set_option maxRecDepth 20000 in
theorem gX6_decline_X6_ends : GoodIn wsX6_decline (wsV RX6 153 RX6 yX6_ends wsX6_ends) := goodIn_app (goodIn_of _ (by decide +kernel)) ggX6_decline_X6_ends
set_option maxRecDepth 20000 in
theorem ggX6_decline_X6_bars : GoodIn wsX6_decline wsX6_bars := goodIn_r _ [50, 51, 52, 53, 54, 55, 56, 57, 58, 59, 60, 61, 62, 63, 64, 65, 66, 67, 68, 69, 70, 71, 72, 73, 74, 75, 76, 77] (by decide +kernel) (by decide +kernel)
set_option maxRecDepth 20000 in
theorem gX6_decline_X6_bars : GoodIn wsX6_decline (wsV RX6 156 RX6 yX6_bars wsX6_bars) := goodIn_app (goodIn_of _ (by decide +kernel)) ggX6_decline_X6_bars
theorem dX6_decline_0 : decode cX6_decline 0 = .ok (.aload_n 0, 1) := by decide +kernel
theorem dX6_decline_1 : decode cX6_decline 1 = .ok (.aload_n 0, 1) := by decide +kernel
theorem dX6_decline_2 : decode cX6_decline 2 = .ok (.iload_n 1, 1) := by decide +kernel
theorem dX6_decline_3 : decode cX6_decline 3 = .ok (.iload_n 2, 1) := by decide +kernel
theorem dX6_decline_4 : decode cX6_decline 4 = .ok (.invokevirtual 149, 3) := by decide +kernel
theorem dX6_decline_7 : decode cX6_decline 7 = .ok (.invokevirtual 76, 3) := by decide +kernel
theorem dX6_decline_10 : decode cX6_decline 10 = .ok (.ifCond .ne 5, 3) := by decide +kernel
theorem dX6_decline_13 : decode cX6_decline 13 = .ok (.iconst 0, 1) := by decide +kernel
theorem dX6_decline_14 : decode cX6_decline 14 = .ok (.ireturn, 1) := by decide +kernel
theorem dX6_decline_15 : decode cX6_decline 15 = .ok (.aload_n 0, 1) := by decide +kernel
theorem dX6_decline_16 : decode cX6_decline 16 = .ok (.iload_n 1, 1) := by decide +kernel
theorem dX6_decline_17 : decode cX6_decline 17 = .ok (.iconst 1, 1) := by decide +kernel
theorem dX6_decline_18 : decode cX6_decline 18 = .ok (.iload_n 2, 1) := by decide +kernel
theorem dX6_decline_19 : decode cX6_decline 19 = .ok (.ishl, 1) := by decide +kernel
theorem dX6_decline_20 : decode cX6_decline 20 = .ok (.invokevirtual 153, 3) := by decide +kernel
theorem dX6_decline_23 : decode cX6_decline 23 = .ok (.aload_n 0, 1) := by decide +kernel
theorem dX6_decline_24 : decode cX6_decline 24 = .ok (.iload_n 2, 1) := by decide +kernel
theorem dX6_decline_25 : decode cX6_decline 25 = .ok (.invokevirtual 156, 3) := by decide +kernel
theorem dX6_decline_28 : decode cX6_decline 28 = .ok (.ireturn, 1) := by decide +kernel
set_option maxRecDepth 20000 in
theorem ggX6_finish_X6_isMatch : GoodIn wsX6_finish wsX6_isMatch := goodIn_r _ [13, 14, 15, 16, 12, 17, 42, 43, 44, 45, 46, 47, 48, 49, 50, 51, 52, 53, 54, 55, 56, 57, 58, 59, 60, 61, 62, 63, 64, 65] (by decide +kernel) (by decide +kernel)
set_option maxRecDepth 20000 in
theorem gX6_finish_X6_isMatch : GoodIn wsX6_finish (wsV RX6 143 RX6 yX6_isMatch wsX6_isMatch) := goodIn_app (goodIn_of _ (by decide +kernel)) ggX6_finish_X6_isMatch
set_option maxRecDepth 20000 in
theorem ggX6_finish_X6_isIn : GoodIn wsX6_finish wsX6_isIn := goodIn_r _ [17] (by decide +kernel) (by decide +kernel)
set_option maxRecDepth 20000 in
theorem gX6_finish_X6_isIn : GoodIn wsX6_finish (va_wsS RX6 66 yX6_isIn wsX6_isIn) := goodIn_app (goodIn_of _ (by decide +kernel)) ggX6_finish_X6_isIn
set_option maxRecDepth 20000 in
theorem ggX6_finish_X6_can : GoodIn wsX6_finish wsX6_can := goodIn_r _ [21, 22, 42, 43, 44, 45, 46, 47, 48, 49, 50, 51, 52, 53, 54, 55, 56, 57, 58, 59, 60, 61, 62, 63, 64, 65] (by decide +kernel) (by decide +kernel)
set_option maxRecDepth 20000 in
theorem gX6_finish_X6_can : GoodIn wsX6_finish (wsV RX6 76 RX6 yX6_can wsX6_can) := goodIn_app (goodIn_of _ (by decide +kernel)) ggX6_finish_X6_can
set_option maxRecDepth 20000 in
theorem ggX6_finish_X6_sumOf : GoodIn wsX6_finish wsX6_sumOf := goodIn_r _ [26, 3, 4, 27, 28, 12, 29, 42, 43, 44, 45, 46, 47, 48, 49, 50, 51, 52, 53, 54, 55, 56, 57, 58, 59, 60, 61, 62, 63, 64, 65] (by decide +kernel) (by decide +kernel)
set_option maxRecDepth 20000 in
theorem gX6_finish_X6_sumOf : GoodIn wsX6_finish (wsV RX6 107 RX6 yX6_sumOf wsX6_sumOf) := goodIn_app (goodIn_of _ (by decide +kernel)) ggX6_finish_X6_sumOf
set_option maxRecDepth 20000 in
theorem ggX6_finish_X6_allOf : GoodIn wsX6_finish wsX6_allOf := goodIn_r _ [33, 2, 42, 43, 44, 45, 46, 47, 48, 49, 50, 51, 52, 53, 54, 55, 56, 57, 58, 59, 60, 61, 62, 63, 64, 65] (by decide +kernel) (by decide +kernel)
set_option maxRecDepth 20000 in
theorem gX6_finish_X6_allOf : GoodIn wsX6_finish (wsV RX6 146 RX6 yX6_allOf wsX6_allOf) := goodIn_app (goodIn_of _ (by decide +kernel)) ggX6_finish_X6_allOf
set_option maxRecDepth 20000 in
theorem ggX6_finish_X6_has : GoodIn wsX6_finish wsX6_has := goodIn_r _ [29] (by decide +kernel) (by decide +kernel)
set_option maxRecDepth 20000 in
theorem gX6_finish_X6_has : GoodIn wsX6_finish (va_wsS RX6 80 yX6_has wsX6_has) := goodIn_app (goodIn_of _ (by decide +kernel)) ggX6_finish_X6_has
set_option maxRecDepth 20000 in
theorem ggX6_finish_X6_down : GoodIn wsX6_finish wsX6_down := goodIn_r _ [36] (by decide +kernel) (by decide +kernel)
set_option maxRecDepth 20000 in
theorem gX6_finish_X6_down : GoodIn wsX6_finish (va_wsS RX6 159 yX6_down wsX6_down) := goodIn_app (goodIn_of _ (by decide +kernel)) ggX6_finish_X6_down
set_option maxRecDepth 20000 in
theorem ggX6_finish_X6_become : GoodIn wsX6_finish wsX6_become := goodIn_r _ [40, 3, 41, 27, 28, 12, 29, 42, 43, 44, 45, 46, 47, 48, 49, 50, 51, 52, 53, 54, 55, 56, 57, 58, 59, 60, 61, 62, 63, 64, 65] (by decide +kernel) (by decide +kernel)
set_option maxRecDepth 20000 in
theorem gX6_finish_X6_become : GoodIn wsX6_finish (wsV RX6 91 RX6 yX6_become wsX6_become) := goodIn_app (goodIn_of _ (by decide +kernel)) ggX6_finish_X6_become
theorem dX6_finish_0 : decode cX6_finish 0 = .ok (.aload_n 0, 1) := by decide +kernel
theorem dX6_finish_1 : decode cX6_finish 1 = .ok (.aload_n 0, 1) := by decide +kernel
theorem dX6_finish_2 : decode cX6_finish 2 = .ok (.iload_n 1, 1) := by decide +kernel
theorem dX6_finish_3 : decode cX6_finish 3 = .ok (.invokevirtual 143, 3) := by decide +kernel
theorem dX6_finish_6 : decode cX6_finish 6 = .ok (.ifCond .ne 7, 3) := by decide +kernel
theorem dX6_finish_9 : decode cX6_finish 9 = .ok (.iconst 1, 1) := by decide +kernel
theorem dX6_finish_10 : decode cX6_finish 10 = .ok (.goto 31, 3) := by decide +kernel
theorem dX6_finish_13 : decode cX6_finish 13 = .ok (.iload_n 2, 1) := by decide +kernel
theorem dX6_finish_14 : decode cX6_finish 14 = .ok (.iconst 0, 1) := by decide +kernel
theorem dX6_finish_15 : decode cX6_finish 15 = .ok (.iconst 1, 1) := by decide +kernel
theorem dX6_finish_16 : decode cX6_finish 16 = .ok (.invokestatic 66, 3) := by decide +kernel
theorem dX6_finish_19 : decode cX6_finish 19 = .ok (.ifCond .ne 7, 3) := by decide +kernel
theorem dX6_finish_22 : decode cX6_finish 22 = .ok (.iconst 2, 1) := by decide +kernel
theorem dX6_finish_23 : decode cX6_finish 23 = .ok (.goto 18, 3) := by decide +kernel
theorem dX6_finish_26 : decode cX6_finish 26 = .ok (.aload_n 0, 1) := by decide +kernel
theorem dX6_finish_27 : decode cX6_finish 27 = .ok (.getfield 53, 3) := by decide +kernel
theorem dX6_finish_30 : decode cX6_finish 30 = .ok (.iload_n 1, 1) := by decide +kernel
theorem dX6_finish_31 : decode cX6_finish 31 = .ok (.iaload, 1) := by decide +kernel
theorem dX6_finish_32 : decode cX6_finish 32 = .ok (.iconst 1, 1) := by decide +kernel
theorem dX6_finish_33 : decode cX6_finish 33 = .ok (.if_icmp .ne 7, 3) := by decide +kernel
theorem dX6_finish_36 : decode cX6_finish 36 = .ok (.iconst 0, 1) := by decide +kernel
theorem dX6_finish_37 : decode cX6_finish 37 = .ok (.goto 4, 3) := by decide +kernel
theorem dX6_finish_40 : decode cX6_finish 40 = .ok (.iconst 3, 1) := by decide +kernel
theorem dX6_finish_41 : decode cX6_finish 41 = .ok (.invokevirtual 76, 3) := by decide +kernel
theorem dX6_finish_44 : decode cX6_finish 44 = .ok (.ifCond .ne 4, 3) := by decide +kernel
theorem dX6_finish_47 : decode cX6_finish 47 = .ok (.return_, 1) := by decide +kernel
theorem dX6_finish_48 : decode cX6_finish 48 = .ok (.sipush 500, 3) := by decide +kernel
theorem dX6_finish_51 : decode cX6_finish 51 = .ok (.aload_n 0, 1) := by decide +kernel
theorem dX6_finish_52 : decode cX6_finish 52 = .ok (.aload_n 0, 1) := by decide +kernel
theorem dX6_finish_53 : decode cX6_finish 53 = .ok (.getfield 41, 3) := by decide +kernel
theorem dX6_finish_56 : decode cX6_finish 56 = .ok (.iconst 2, 1) := by decide +kernel
theorem dX6_finish_57 : decode cX6_finish 57 = .ok (.iload_n 1, 1) := by decide +kernel
theorem dX6_finish_58 : decode cX6_finish 58 = .ok (.imul, 1) := by decide +kernel
theorem dX6_finish_59 : decode cX6_finish 59 = .ok (.iaload, 1) := by decide +kernel
theorem dX6_finish_60 : decode cX6_finish 60 = .ok (.invokevirtual 107, 3) := by decide +kernel
theorem dX6_finish_63 : decode cX6_finish 63 = .ok (.iconst 3, 1) := by decide +kernel
theorem dX6_finish_64 : decode cX6_finish 64 = .ok (.idiv, 1) := by decide +kernel
theorem dX6_finish_65 : decode cX6_finish 65 = .ok (.iadd, 1) := by decide +kernel
theorem dX6_finish_66 : decode cX6_finish 66 = .ok (.aload_n 0, 1) := by decide +kernel
theorem dX6_finish_67 : decode cX6_finish 67 = .ok (.aload_n 0, 1) := by decide +kernel
theorem dX6_finish_68 : decode cX6_finish 68 = .ok (.getfield 41, 3) := by decide +kernel
theorem dX6_finish_71 : decode cX6_finish 71 = .ok (.iconst 2, 1) := by decide +kernel
theorem dX6_finish_72 : decode cX6_finish 72 = .ok (.iload_n 1, 1) := by decide +kernel
theorem dX6_finish_73 : decode cX6_finish 73 = .ok (.imul, 1) := by decide +kernel
theorem dX6_finish_74 : decode cX6_finish 74 = .ok (.iconst 1, 1) := by decide +kernel
theorem dX6_finish_75 : decode cX6_finish 75 = .ok (.iadd, 1) := by decide +kernel
theorem dX6_finish_76 : decode cX6_finish 76 = .ok (.iaload, 1) := by decide +kernel
theorem dX6_finish_77 : decode cX6_finish 77 = .ok (.invokevirtual 107, 3) := by decide +kernel
theorem dX6_finish_80 : decode cX6_finish 80 = .ok (.iconst 3, 1) := by decide +kernel
theorem dX6_finish_81 : decode cX6_finish 81 = .ok (.idiv, 1) := by decide +kernel
theorem dX6_finish_82 : decode cX6_finish 82 = .ok (.isub, 1) := by decide +kernel
theorem dX6_finish_83 : decode cX6_finish 83 = .ok (.istore_n 3, 1) := by decide +kernel
theorem dX6_finish_84 : decode cX6_finish 84 = .ok (.iload_n 3, 1) := by decide +kernel
theorem dX6_finish_85 : decode cX6_finish 85 = .ok (.bipush 50, 2) := by decide +kernel
theorem dX6_finish_87 : decode cX6_finish 87 = .ok (.if_icmp .ge 8, 3) := by decide +kernel
theorem dX6_finish_90 : decode cX6_finish 90 = .ok (.bipush 50, 2) := by decide +kernel
theorem dX6_finish_92 : decode cX6_finish 92 = .ok (.goto 17, 3) := by decide +kernel
theorem dX6_finish_95 : decode cX6_finish 95 = .ok (.iload_n 3, 1) := by decide +kernel
theorem dX6_finish_96 : decode cX6_finish 96 = .ok (.sipush 950, 3) := by decide +kernel
theorem dX6_finish_99 : decode cX6_finish 99 = .ok (.if_icmp .le 9, 3) := by decide +kernel
theorem dX6_finish_102 : decode cX6_finish 102 = .ok (.sipush 950, 3) := by decide +kernel
theorem dX6_finish_105 : decode cX6_finish 105 = .ok (.goto 4, 3) := by decide +kernel
theorem dX6_finish_108 : decode cX6_finish 108 = .ok (.iload_n 3, 1) := by decide +kernel
theorem dX6_finish_109 : decode cX6_finish 109 = .ok (.istore_n 3, 1) := by decide +kernel
theorem dX6_finish_110 : decode cX6_finish 110 = .ok (.iconst 0, 1) := by decide +kernel
theorem dX6_finish_111 : decode cX6_finish 111 = .ok (.istore 4, 2) := by decide +kernel
theorem dX6_finish_113 : decode cX6_finish 113 = .ok (.iload 4, 2) := by decide +kernel
theorem dX6_finish_115 : decode cX6_finish 115 = .ok (.aload_n 0, 1) := by decide +kernel
theorem dX6_finish_116 : decode cX6_finish 116 = .ok (.getfield 63, 3) := by decide +kernel
theorem dX6_finish_119 : decode cX6_finish 119 = .ok (.if_icmp .ge 194, 3) := by decide +kernel
theorem dX6_finish_122 : decode cX6_finish 122 = .ok (.aload_n 0, 1) := by decide +kernel
theorem dX6_finish_123 : decode cX6_finish 123 = .ok (.iload_n 1, 1) := by decide +kernel
theorem dX6_finish_124 : decode cX6_finish 124 = .ok (.invokevirtual 146, 3) := by decide +kernel
theorem dX6_finish_127 : decode cX6_finish 127 = .ok (.iload 4, 2) := by decide +kernel
theorem dX6_finish_129 : decode cX6_finish 129 = .ok (.invokestatic 80, 3) := by decide +kernel
theorem dX6_finish_132 : decode cX6_finish 132 = .ok (.ifCond .eq 175, 3) := by decide +kernel
theorem dX6_finish_135 : decode cX6_finish 135 = .ok (.aload_n 0, 1) := by decide +kernel
theorem dX6_finish_136 : decode cX6_finish 136 = .ok (.getfield 41, 3) := by decide +kernel
theorem dX6_finish_139 : decode cX6_finish 139 = .ok (.iconst 2, 1) := by decide +kernel
theorem dX6_finish_140 : decode cX6_finish 140 = .ok (.iload_n 1, 1) := by decide +kernel
theorem dX6_finish_141 : decode cX6_finish 141 = .ok (.imul, 1) := by decide +kernel
theorem dX6_finish_142 : decode cX6_finish 142 = .ok (.iaload, 1) := by decide +kernel
theorem dX6_finish_143 : decode cX6_finish 143 = .ok (.iload 4, 2) := by decide +kernel
theorem dX6_finish_145 : decode cX6_finish 145 = .ok (.invokestatic 80, 3) := by decide +kernel
theorem dX6_finish_148 : decode cX6_finish 148 = .ok (.ifCond .eq 7, 3) := by decide +kernel
theorem dX6_finish_151 : decode cX6_finish 151 = .ok (.iconst 0, 1) := by decide +kernel
theorem dX6_finish_152 : decode cX6_finish 152 = .ok (.goto 4, 3) := by decide +kernel
theorem dX6_finish_155 : decode cX6_finish 155 = .ok (.iconst 1, 1) := by decide +kernel
theorem dX6_finish_156 : decode cX6_finish 156 = .ok (.istore 5, 2) := by decide +kernel
theorem dX6_finish_158 : decode cX6_finish 158 = .ok (.iload 5, 2) := by decide +kernel
theorem dX6_finish_160 : decode cX6_finish 160 = .ok (.iload_n 2, 1) := by decide +kernel
theorem dX6_finish_161 : decode cX6_finish 161 = .ok (.if_icmp .ne 9, 3) := by decide +kernel
theorem dX6_finish_164 : decode cX6_finish 164 = .ok (.sipush 1000, 3) := by decide +kernel
theorem dX6_finish_167 : decode cX6_finish 167 = .ok (.goto 4, 3) := by decide +kernel
theorem dX6_finish_170 : decode cX6_finish 170 = .ok (.iconst 0, 1) := by decide +kernel
theorem dX6_finish_171 : decode cX6_finish 171 = .ok (.iload 5, 2) := by decide +kernel
theorem dX6_finish_173 : decode cX6_finish 173 = .ok (.ifCond .ne 7, 3) := by decide +kernel
theorem dX6_finish_176 : decode cX6_finish 176 = .ok (.iload_n 3, 1) := by decide +kernel
theorem dX6_finish_177 : decode cX6_finish 177 = .ok (.goto 8, 3) := by decide +kernel
theorem dX6_finish_180 : decode cX6_finish 180 = .ok (.sipush 1000, 3) := by decide +kernel
theorem dX6_finish_183 : decode cX6_finish 183 = .ok (.iload_n 3, 1) := by decide +kernel
theorem dX6_finish_184 : decode cX6_finish 184 = .ok (.isub, 1) := by decide +kernel
theorem dX6_finish_185 : decode cX6_finish 185 = .ok (.isub, 1) := by decide +kernel
theorem dX6_finish_186 : decode cX6_finish 186 = .ok (.istore 6, 2) := by decide +kernel
theorem dX6_finish_188 : decode cX6_finish 188 = .ok (.aload_n 0, 1) := by decide +kernel
theorem dX6_finish_189 : decode cX6_finish 189 = .ok (.getfield 7, 3) := by decide +kernel
theorem dX6_finish_192 : decode cX6_finish 192 = .ok (.iload 4, 2) := by decide +kernel
theorem dX6_finish_194 : decode cX6_finish 194 = .ok (.iaload, 1) := by decide +kernel
theorem dX6_finish_195 : decode cX6_finish 195 = .ok (.aload_n 0, 1) := by decide +kernel
theorem dX6_finish_196 : decode cX6_finish 196 = .ok (.getfield 13, 3) := by decide +kernel
theorem dX6_finish_199 : decode cX6_finish 199 = .ok (.iload 4, 2) := by decide +kernel
theorem dX6_finish_201 : decode cX6_finish 201 = .ok (.iaload, 1) := by decide +kernel
theorem dX6_finish_202 : decode cX6_finish 202 = .ok (.iload 6, 2) := by decide +kernel
theorem dX6_finish_204 : decode cX6_finish 204 = .ok (.imul, 1) := by decide +kernel
theorem dX6_finish_205 : decode cX6_finish 205 = .ok (.sipush 8000, 3) := by decide +kernel
theorem dX6_finish_208 : decode cX6_finish 208 = .ok (.invokestatic 159, 3) := by decide +kernel
theorem dX6_finish_211 : decode cX6_finish 211 = .ok (.iadd, 1) := by decide +kernel
theorem dX6_finish_212 : decode cX6_finish 212 = .ok (.istore 7, 2) := by decide +kernel
theorem dX6_finish_214 : decode cX6_finish 214 = .ok (.aload_n 0, 1) := by decide +kernel
theorem dX6_finish_215 : decode cX6_finish 215 = .ok (.getfield 7, 3) := by decide +kernel
theorem dX6_finish_218 : decode cX6_finish 218 = .ok (.iload 4, 2) := by decide +kernel
theorem dX6_finish_220 : decode cX6_finish 220 = .ok (.iload 7, 2) := by decide +kernel
theorem dX6_finish_222 : decode cX6_finish 222 = .ok (.ifCond .ge 7, 3) := by decide +kernel
theorem dX6_finish_225 : decode cX6_finish 225 = .ok (.iconst 0, 1) := by decide +kernel
theorem dX6_finish_226 : decode cX6_finish 226 = .ok (.goto 19, 3) := by decide +kernel
theorem dX6_finish_229 : decode cX6_finish 229 = .ok (.iload 7, 2) := by decide +kernel
theorem dX6_finish_231 : decode cX6_finish 231 = .ok (.sipush 4000, 3) := by decide +kernel
theorem dX6_finish_234 : decode cX6_finish 234 = .ok (.if_icmp .le 9, 3) := by decide +kernel
theorem dX6_finish_237 : decode cX6_finish 237 = .ok (.sipush 4000, 3) := by decide +kernel
theorem dX6_finish_240 : decode cX6_finish 240 = .ok (.goto 5, 3) := by decide +kernel
theorem dX6_finish_243 : decode cX6_finish 243 = .ok (.iload 7, 2) := by decide +kernel
theorem dX6_finish_245 : decode cX6_finish 245 = .ok (.iastore, 1) := by decide +kernel
theorem dX6_finish_246 : decode cX6_finish 246 = .ok (.aload_n 0, 1) := by decide +kernel
theorem dX6_finish_247 : decode cX6_finish 247 = .ok (.getfield 13, 3) := by decide +kernel
theorem dX6_finish_250 : decode cX6_finish 250 = .ok (.iload 4, 2) := by decide +kernel
theorem dX6_finish_252 : decode cX6_finish 252 = .ok (.iaload, 1) := by decide +kernel
theorem dX6_finish_253 : decode cX6_finish 253 = .ok (.bipush 9, 2) := by decide +kernel
theorem dX6_finish_255 : decode cX6_finish 255 = .ok (.imul, 1) := by decide +kernel
theorem dX6_finish_256 : decode cX6_finish 256 = .ok (.bipush 10, 2) := by decide +kernel
theorem dX6_finish_258 : decode cX6_finish 258 = .ok (.idiv, 1) := by decide +kernel
theorem dX6_finish_259 : decode cX6_finish 259 = .ok (.istore 8, 2) := by decide +kernel
theorem dX6_finish_261 : decode cX6_finish 261 = .ok (.aload_n 0, 1) := by decide +kernel
theorem dX6_finish_262 : decode cX6_finish 262 = .ok (.getfield 13, 3) := by decide +kernel
theorem dX6_finish_265 : decode cX6_finish 265 = .ok (.iload 4, 2) := by decide +kernel
theorem dX6_finish_267 : decode cX6_finish 267 = .ok (.iload 8, 2) := by decide +kernel
theorem dX6_finish_269 : decode cX6_finish 269 = .ok (.bipush 50, 2) := by decide +kernel
theorem dX6_finish_271 : decode cX6_finish 271 = .ok (.if_icmp .ge 8, 3) := by decide +kernel
theorem dX6_finish_274 : decode cX6_finish 274 = .ok (.bipush 50, 2) := by decide +kernel
theorem dX6_finish_276 : decode cX6_finish 276 = .ok (.goto 5, 3) := by decide +kernel
theorem dX6_finish_279 : decode cX6_finish 279 = .ok (.iload 8, 2) := by decide +kernel
theorem dX6_finish_281 : decode cX6_finish 281 = .ok (.iastore, 1) := by decide +kernel
theorem dX6_finish_282 : decode cX6_finish 282 = .ok (.aload_n 0, 1) := by decide +kernel
theorem dX6_finish_283 : decode cX6_finish 283 = .ok (.getfield 19, 3) := by decide +kernel
theorem dX6_finish_286 : decode cX6_finish 286 = .ok (.iload 4, 2) := by decide +kernel
theorem dX6_finish_288 : decode cX6_finish 288 = .ok (.dup2, 1) := by decide +kernel
theorem dX6_finish_289 : decode cX6_finish 289 = .ok (.iaload, 1) := by decide +kernel
theorem dX6_finish_290 : decode cX6_finish 290 = .ok (.aload_n 0, 1) := by decide +kernel
theorem dX6_finish_291 : decode cX6_finish 291 = .ok (.getfield 19, 3) := by decide +kernel
theorem dX6_finish_294 : decode cX6_finish 294 = .ok (.iload 4, 2) := by decide +kernel
theorem dX6_finish_296 : decode cX6_finish 296 = .ok (.iaload, 1) := by decide +kernel
theorem dX6_finish_297 : decode cX6_finish 297 = .ok (.ifCond .le 7, 3) := by decide +kernel
theorem dX6_finish_300 : decode cX6_finish 300 = .ok (.iconst 1, 1) := by decide +kernel
theorem dX6_finish_301 : decode cX6_finish 301 = .ok (.goto 4, 3) := by decide +kernel
theorem dX6_finish_304 : decode cX6_finish 304 = .ok (.iconst 0, 1) := by decide +kernel
theorem dX6_finish_305 : decode cX6_finish 305 = .ok (.isub, 1) := by decide +kernel
theorem dX6_finish_306 : decode cX6_finish 306 = .ok (.iastore, 1) := by decide +kernel
theorem dX6_finish_307 : decode cX6_finish 307 = .ok (.iinc 4 1, 3) := by decide +kernel
theorem dX6_finish_310 : decode cX6_finish 310 = .ok (.goto (-197), 3) := by decide +kernel
theorem dX6_finish_313 : decode cX6_finish 313 = .ok (.iconst 0, 1) := by decide +kernel
theorem dX6_finish_314 : decode cX6_finish 314 = .ok (.istore 4, 2) := by decide +kernel
theorem dX6_finish_316 : decode cX6_finish 316 = .ok (.iload 4, 2) := by decide +kernel
theorem dX6_finish_318 : decode cX6_finish 318 = .ok (.aload_n 0, 1) := by decide +kernel
theorem dX6_finish_319 : decode cX6_finish 319 = .ok (.getfield 70, 3) := by decide +kernel
theorem dX6_finish_322 : decode cX6_finish 322 = .ok (.if_icmp .ge 38, 3) := by decide +kernel
theorem dX6_finish_325 : decode cX6_finish 325 = .ok (.aload_n 0, 1) := by decide +kernel
theorem dX6_finish_326 : decode cX6_finish 326 = .ok (.getfield 38, 3) := by decide +kernel
theorem dX6_finish_329 : decode cX6_finish 329 = .ok (.iload 4, 2) := by decide +kernel
theorem dX6_finish_331 : decode cX6_finish 331 = .ok (.aload_n 0, 1) := by decide +kernel
theorem dX6_finish_332 : decode cX6_finish 332 = .ok (.getfield 38, 3) := by decide +kernel
theorem dX6_finish_335 : decode cX6_finish 335 = .ok (.iload 4, 2) := by decide +kernel
theorem dX6_finish_337 : decode cX6_finish 337 = .ok (.iaload, 1) := by decide +kernel
theorem dX6_finish_338 : decode cX6_finish 338 = .ok (.iload_n 1, 1) := by decide +kernel
theorem dX6_finish_339 : decode cX6_finish 339 = .ok (.if_icmp .ne 7, 3) := by decide +kernel
theorem dX6_finish_342 : decode cX6_finish 342 = .ok (.iconst (-1), 1) := by decide +kernel
theorem dX6_finish_343 : decode cX6_finish 343 = .ok (.goto 10, 3) := by decide +kernel
theorem dX6_finish_346 : decode cX6_finish 346 = .ok (.aload_n 0, 1) := by decide +kernel
theorem dX6_finish_347 : decode cX6_finish 347 = .ok (.getfield 38, 3) := by decide +kernel
theorem dX6_finish_350 : decode cX6_finish 350 = .ok (.iload 4, 2) := by decide +kernel
theorem dX6_finish_352 : decode cX6_finish 352 = .ok (.iaload, 1) := by decide +kernel
theorem dX6_finish_353 : decode cX6_finish 353 = .ok (.iastore, 1) := by decide +kernel
theorem dX6_finish_354 : decode cX6_finish 354 = .ok (.iinc 4 1, 3) := by decide +kernel
theorem dX6_finish_357 : decode cX6_finish 357 = .ok (.goto (-41), 3) := by decide +kernel
theorem dX6_finish_360 : decode cX6_finish 360 = .ok (.aload_n 0, 1) := by decide +kernel
theorem dX6_finish_361 : decode cX6_finish 361 = .ok (.aload_n 0, 1) := by decide +kernel
theorem dX6_finish_362 : decode cX6_finish 362 = .ok (.iload_n 1, 1) := by decide +kernel
theorem dX6_finish_363 : decode cX6_finish 363 = .ok (.invokevirtual 146, 3) := by decide +kernel
theorem dX6_finish_366 : decode cX6_finish 366 = .ok (.iconst 0, 1) := by decide +kernel
theorem dX6_finish_367 : decode cX6_finish 367 = .ok (.invokevirtual 91, 3) := by decide +kernel
theorem dX6_finish_370 : decode cX6_finish 370 = .ok (.aload_n 0, 1) := by decide +kernel
theorem dX6_finish_371 : decode cX6_finish 371 = .ok (.getfield 53, 3) := by decide +kernel
theorem dX6_finish_374 : decode cX6_finish 374 = .ok (.iload_n 1, 1) := by decide +kernel
theorem dX6_finish_375 : decode cX6_finish 375 = .ok (.iconst 3, 1) := by decide +kernel
theorem dX6_finish_376 : decode cX6_finish 376 = .ok (.iastore, 1) := by decide +kernel
theorem dX6_finish_377 : decode cX6_finish 377 = .ok (.return_, 1) := by decide +kernel
theorem dX6_matches_0 : decode cX6_matches 0 = .ok (.aload_n 0, 1) := by decide +kernel
theorem dX6_matches_1 : decode cX6_matches 1 = .ok (.iconst 0, 1) := by decide +kernel
theorem dX6_matches_2 : decode cX6_matches 2 = .ok (.putfield 59, 3) := by decide +kernel
theorem dX6_matches_5 : decode cX6_matches 5 = .ok (.aload_n 0, 1) := by decide +kernel
theorem dX6_matches_6 : decode cX6_matches 6 = .ok (.getfield 73, 3) := by decide +kernel
theorem dX6_matches_9 : decode cX6_matches 9 = .ok (.ireturn, 1) := by decide +kernel
set_option maxRecDepth 20000 in
theorem ggX6_matchState_X6_isMatch : GoodIn wsX6_matchState wsX6_isMatch := goodIn_r _ [6, 7, 8, 9, 5, 10, 16, 17, 18, 19, 20, 21, 22, 23, 24, 25, 26, 27, 28, 29, 30, 31, 32, 33, 34, 35, 36, 37, 38, 39] (by decide +kernel) (by decide +kernel)
set_option maxRecDepth 20000 in
theorem gX6_matchState_X6_isMatch : GoodIn wsX6_matchState (wsV RX6 143 RX6 yX6_isMatch wsX6_isMatch) := goodIn_app (goodIn_of _ (by decide +kernel)) ggX6_matchState_X6_isMatch
set_option maxRecDepth 20000 in
theorem ggX6_matchState_X6_can : GoodIn wsX6_matchState wsX6_can := goodIn_r _ [14, 15, 16, 17, 18, 19, 20, 21, 22, 23, 24, 25, 26, 27, 28, 29, 30, 31, 32, 33, 34, 35, 36, 37, 38, 39] (by decide +kernel) (by decide +kernel)
set_option maxRecDepth 20000 in
theorem gX6_matchState_X6_can : GoodIn wsX6_matchState (wsV RX6 76 RX6 yX6_can wsX6_can) := goodIn_app (goodIn_of _ (by decide +kernel)) ggX6_matchState_X6_can
theorem dX6_matchState_0 : decode cX6_matchState 0 = .ok (.aload_n 0, 1) := by decide +kernel
theorem dX6_matchState_1 : decode cX6_matchState 1 = .ok (.aload_n 0, 1) := by decide +kernel
theorem dX6_matchState_2 : decode cX6_matchState 2 = .ok (.iload_n 1, 1) := by decide +kernel
theorem dX6_matchState_3 : decode cX6_matchState 3 = .ok (.invokevirtual 143, 3) := by decide +kernel
theorem dX6_matchState_6 : decode cX6_matchState 6 = .ok (.ifCond .eq 7, 3) := by decide +kernel
theorem dX6_matchState_9 : decode cX6_matchState 9 = .ok (.iconst 0, 1) := by decide +kernel
theorem dX6_matchState_10 : decode cX6_matchState 10 = .ok (.goto 4, 3) := by decide +kernel
theorem dX6_matchState_13 : decode cX6_matchState 13 = .ok (.iconst 1, 1) := by decide +kernel
theorem dX6_matchState_14 : decode cX6_matchState 14 = .ok (.invokevirtual 76, 3) := by decide +kernel
theorem dX6_matchState_17 : decode cX6_matchState 17 = .ok (.ifCond .eq 12, 3) := by decide +kernel
theorem dX6_matchState_20 : decode cX6_matchState 20 = .ok (.aload_n 0, 1) := by decide +kernel
theorem dX6_matchState_21 : decode cX6_matchState 21 = .ok (.getfield 53, 3) := by decide +kernel
theorem dX6_matchState_24 : decode cX6_matchState 24 = .ok (.iload_n 1, 1) := by decide +kernel
theorem dX6_matchState_25 : decode cX6_matchState 25 = .ok (.iaload, 1) := by decide +kernel
theorem dX6_matchState_26 : decode cX6_matchState 26 = .ok (.goto 4, 3) := by decide +kernel
theorem dX6_matchState_29 : decode cX6_matchState 29 = .ok (.iconst 0, 1) := by decide +kernel
theorem dX6_matchState_30 : decode cX6_matchState 30 = .ok (.ireturn, 1) := by decide +kernel
set_option maxRecDepth 20000 in
theorem ggX6_team_X6_isMatch : GoodIn wsX6_team wsX6_isMatch := goodIn_r _ [6, 7, 8, 9, 5, 10, 16, 17, 18, 19, 20, 21, 22, 23, 24, 25, 26, 27, 28, 29, 30, 31, 32, 33, 34, 35, 36, 37, 38, 39] (by decide +kernel) (by decide +kernel)
set_option maxRecDepth 20000 in
theorem gX6_team_X6_isMatch : GoodIn wsX6_team (wsV RX6 143 RX6 yX6_isMatch wsX6_isMatch) := goodIn_app (goodIn_of _ (by decide +kernel)) ggX6_team_X6_isMatch
set_option maxRecDepth 20000 in
theorem ggX6_team_X6_isIn : GoodIn wsX6_team wsX6_isIn := goodIn_r _ [10] (by decide +kernel) (by decide +kernel)
set_option maxRecDepth 20000 in
theorem gX6_team_X6_isIn : GoodIn wsX6_team (va_wsS RX6 66 yX6_isIn wsX6_isIn) := goodIn_app (goodIn_of _ (by decide +kernel)) ggX6_team_X6_isIn
set_option maxRecDepth 20000 in
theorem ggX6_team_X6_can : GoodIn wsX6_team wsX6_can := goodIn_r _ [14, 15, 16, 17, 18, 19, 20, 21, 22, 23, 24, 25, 26, 27, 28, 29, 30, 31, 32, 33, 34, 35, 36, 37, 38, 39] (by decide +kernel) (by decide +kernel)
set_option maxRecDepth 20000 in
theorem gX6_team_X6_can : GoodIn wsX6_team (wsV RX6 76 RX6 yX6_can wsX6_can) := goodIn_app (goodIn_of _ (by decide +kernel)) ggX6_team_X6_can
theorem dX6_team_0 : decode cX6_team 0 = .ok (.aload_n 0, 1) := by decide +kernel
theorem dX6_team_1 : decode cX6_team 1 = .ok (.aload_n 0, 1) := by decide +kernel
theorem dX6_team_2 : decode cX6_team 2 = .ok (.iload_n 1, 1) := by decide +kernel
theorem dX6_team_3 : decode cX6_team 3 = .ok (.invokevirtual 143, 3) := by decide +kernel
theorem dX6_team_6 : decode cX6_team 6 = .ok (.ifCond .ne 7, 3) := by decide +kernel
theorem dX6_team_9 : decode cX6_team 9 = .ok (.iconst 1, 1) := by decide +kernel
theorem dX6_team_10 : decode cX6_team 10 = .ok (.goto 17, 3) := by decide +kernel
theorem dX6_team_13 : decode cX6_team 13 = .ok (.iload_n 2, 1) := by decide +kernel
theorem dX6_team_14 : decode cX6_team 14 = .ok (.iconst 0, 1) := by decide +kernel
theorem dX6_team_15 : decode cX6_team 15 = .ok (.iconst 1, 1) := by decide +kernel
theorem dX6_team_16 : decode cX6_team 16 = .ok (.invokestatic 66, 3) := by decide +kernel
theorem dX6_team_19 : decode cX6_team 19 = .ok (.ifCond .eq 7, 3) := by decide +kernel
theorem dX6_team_22 : decode cX6_team 22 = .ok (.iconst 0, 1) := by decide +kernel
theorem dX6_team_23 : decode cX6_team 23 = .ok (.goto 4, 3) := by decide +kernel
theorem dX6_team_26 : decode cX6_team 26 = .ok (.iconst 2, 1) := by decide +kernel
theorem dX6_team_27 : decode cX6_team 27 = .ok (.invokevirtual 76, 3) := by decide +kernel
theorem dX6_team_30 : decode cX6_team 30 = .ok (.ifCond .eq 16, 3) := by decide +kernel
theorem dX6_team_33 : decode cX6_team 33 = .ok (.aload_n 0, 1) := by decide +kernel
theorem dX6_team_34 : decode cX6_team 34 = .ok (.getfield 41, 3) := by decide +kernel
theorem dX6_team_37 : decode cX6_team 37 = .ok (.iconst 2, 1) := by decide +kernel
theorem dX6_team_38 : decode cX6_team 38 = .ok (.iload_n 1, 1) := by decide +kernel
theorem dX6_team_39 : decode cX6_team 39 = .ok (.imul, 1) := by decide +kernel
theorem dX6_team_40 : decode cX6_team 40 = .ok (.iload_n 2, 1) := by decide +kernel
theorem dX6_team_41 : decode cX6_team 41 = .ok (.iadd, 1) := by decide +kernel
theorem dX6_team_42 : decode cX6_team 42 = .ok (.iaload, 1) := by decide +kernel
theorem dX6_team_43 : decode cX6_team 43 = .ok (.goto 4, 3) := by decide +kernel
theorem dX6_team_46 : decode cX6_team 46 = .ok (.iconst 0, 1) := by decide +kernel
theorem dX6_team_47 : decode cX6_team 47 = .ok (.ireturn, 1) := by decide +kernel
set_option maxRecDepth 20000 in
theorem ggX6_unevenness_X6_isMatch : GoodIn wsX6_unevenness wsX6_isMatch := goodIn_r _ [6, 7, 8, 9, 5, 10, 16, 17, 18, 19, 20, 21, 22, 23, 24, 25, 26, 27, 28, 29, 30, 31, 32, 33, 34, 35, 36, 37, 38, 39] (by decide +kernel) (by decide +kernel)
set_option maxRecDepth 20000 in
theorem gX6_unevenness_X6_isMatch : GoodIn wsX6_unevenness (wsV RX6 143 RX6 yX6_isMatch wsX6_isMatch) := goodIn_app (goodIn_of _ (by decide +kernel)) ggX6_unevenness_X6_isMatch
set_option maxRecDepth 20000 in
theorem ggX6_unevenness_X6_can : GoodIn wsX6_unevenness wsX6_can := goodIn_r _ [14, 15, 16, 17, 18, 19, 20, 21, 22, 23, 24, 25, 26, 27, 28, 29, 30, 31, 32, 33, 34, 35, 36, 37, 38, 39] (by decide +kernel) (by decide +kernel)
set_option maxRecDepth 20000 in
theorem gX6_unevenness_X6_can : GoodIn wsX6_unevenness (wsV RX6 76 RX6 yX6_can wsX6_can) := goodIn_app (goodIn_of _ (by decide +kernel)) ggX6_unevenness_X6_can
theorem dX6_unevenness_0 : decode cX6_unevenness 0 = .ok (.aload_n 0, 1) := by decide +kernel
theorem dX6_unevenness_1 : decode cX6_unevenness 1 = .ok (.aload_n 0, 1) := by decide +kernel
theorem dX6_unevenness_2 : decode cX6_unevenness 2 = .ok (.iload_n 1, 1) := by decide +kernel
theorem dX6_unevenness_3 : decode cX6_unevenness 3 = .ok (.invokevirtual 143, 3) := by decide +kernel
theorem dX6_unevenness_6 : decode cX6_unevenness 6 = .ok (.ifCond .eq 7, 3) := by decide +kernel
theorem dX6_unevenness_9 : decode cX6_unevenness 9 = .ok (.iconst 0, 1) := by decide +kernel
theorem dX6_unevenness_10 : decode cX6_unevenness 10 = .ok (.goto 4, 3) := by decide +kernel
theorem dX6_unevenness_13 : decode cX6_unevenness 13 = .ok (.iconst 1, 1) := by decide +kernel
theorem dX6_unevenness_14 : decode cX6_unevenness 14 = .ok (.invokevirtual 76, 3) := by decide +kernel
theorem dX6_unevenness_17 : decode cX6_unevenness 17 = .ok (.ifCond .eq 12, 3) := by decide +kernel
theorem dX6_unevenness_20 : decode cX6_unevenness 20 = .ok (.aload_n 0, 1) := by decide +kernel
theorem dX6_unevenness_21 : decode cX6_unevenness 21 = .ok (.getfield 44, 3) := by decide +kernel
theorem dX6_unevenness_24 : decode cX6_unevenness 24 = .ok (.iload_n 1, 1) := by decide +kernel
theorem dX6_unevenness_25 : decode cX6_unevenness 25 = .ok (.iaload, 1) := by decide +kernel
theorem dX6_unevenness_26 : decode cX6_unevenness 26 = .ok (.goto 4, 3) := by decide +kernel
theorem dX6_unevenness_29 : decode cX6_unevenness 29 = .ok (.iconst 0, 1) := by decide +kernel
theorem dX6_unevenness_30 : decode cX6_unevenness 30 = .ok (.ireturn, 1) := by decide +kernel
set_option maxRecDepth 20000 in
theorem ggX6_expires_X6_allOf : GoodIn wsX6_expires wsX6_allOf := goodIn_r _ [7, 8, 33, 34, 35, 36, 37, 38, 39, 40, 41, 42, 43, 44, 45, 46, 47, 48, 49, 50, 51, 52, 53, 54, 55, 56] (by decide +kernel) (by decide +kernel)
set_option maxRecDepth 20000 in
theorem gX6_expires_X6_allOf : GoodIn wsX6_expires (wsV RX6 146 RX6 yX6_allOf wsX6_allOf) := goodIn_app (goodIn_of _ (by decide +kernel)) ggX6_expires_X6_allOf
set_option maxRecDepth 20000 in
theorem ggX6_expires_X6_ends : GoodIn wsX6_expires wsX6_ends := goodIn_r _ [12, 13, 14, 15, 16, 17, 18, 19, 20, 6, 21, 2, 22, 23, 24, 25, 33, 34, 35, 36, 37, 38, 39, 40, 41, 42, 43, 44, 45, 46, 47, 48, 49, 50, 51, 52, 53, 54, 55, 56] (by decide +kernel) (by decide +kernel)
set_option maxRecDepth 20000 in
theorem gX6_expires_X6_ends : GoodIn wsX6_expires (wsV RX6 153 RX6 yX6_ends wsX6_ends) := goodIn_app (goodIn_of _ (by decide +kernel)) ggX6_expires_X6_ends
set_option maxRecDepth 20000 in
theorem ggX6_expires_X6_has : GoodIn wsX6_expires wsX6_has := goodIn_r _ [25] (by decide +kernel) (by decide +kernel)
set_option maxRecDepth 20000 in
theorem gX6_expires_X6_has : GoodIn wsX6_expires (va_wsS RX6 80 yX6_has wsX6_has) := goodIn_app (goodIn_of _ (by decide +kernel)) ggX6_expires_X6_has
set_option maxRecDepth 20000 in
theorem ggX6_expires_X6_bars : GoodIn wsX6_expires wsX6_bars := goodIn_r _ [29, 30, 31, 32, 33, 34, 35, 36, 37, 38, 39, 40, 41, 42, 43, 44, 45, 46, 47, 48, 49, 50, 51, 52, 53, 54, 55, 56] (by decide +kernel) (by decide +kernel)
set_option maxRecDepth 20000 in
theorem gX6_expires_X6_bars : GoodIn wsX6_expires (wsV RX6 156 RX6 yX6_bars wsX6_bars) := goodIn_app (goodIn_of _ (by decide +kernel)) ggX6_expires_X6_bars
theorem dX6_expires_0 : decode cX6_expires 0 = .ok (.aload_n 0, 1) := by decide +kernel
theorem dX6_expires_1 : decode cX6_expires 1 = .ok (.iload_n 1, 1) := by decide +kernel
theorem dX6_expires_2 : decode cX6_expires 2 = .ok (.invokevirtual 146, 3) := by decide +kernel
theorem dX6_expires_5 : decode cX6_expires 5 = .ok (.aload_n 0, 1) := by decide +kernel
theorem dX6_expires_6 : decode cX6_expires 6 = .ok (.getfield 50, 3) := by decide +kernel
theorem dX6_expires_9 : decode cX6_expires 9 = .ok (.iload_n 1, 1) := by decide +kernel
theorem dX6_expires_10 : decode cX6_expires 10 = .ok (.iaload, 1) := by decide +kernel
theorem dX6_expires_11 : decode cX6_expires 11 = .ok (.iconst (-1), 1) := by decide +kernel
theorem dX6_expires_12 : decode cX6_expires 12 = .ok (.ixor, 1) := by decide +kernel
theorem dX6_expires_13 : decode cX6_expires 13 = .ok (.iand, 1) := by decide +kernel
theorem dX6_expires_14 : decode cX6_expires 14 = .ok (.istore_n 2, 1) := by decide +kernel
theorem dX6_expires_15 : decode cX6_expires 15 = .ok (.aload_n 0, 1) := by decide +kernel
theorem dX6_expires_16 : decode cX6_expires 16 = .ok (.iload_n 1, 1) := by decide +kernel
theorem dX6_expires_17 : decode cX6_expires 17 = .ok (.iload_n 2, 1) := by decide +kernel
theorem dX6_expires_18 : decode cX6_expires 18 = .ok (.invokevirtual 153, 3) := by decide +kernel
theorem dX6_expires_21 : decode cX6_expires 21 = .ok (.iconst 0, 1) := by decide +kernel
theorem dX6_expires_22 : decode cX6_expires 22 = .ok (.istore_n 3, 1) := by decide +kernel
theorem dX6_expires_23 : decode cX6_expires 23 = .ok (.iload_n 3, 1) := by decide +kernel
theorem dX6_expires_24 : decode cX6_expires 24 = .ok (.aload_n 0, 1) := by decide +kernel
theorem dX6_expires_25 : decode cX6_expires 25 = .ok (.getfield 63, 3) := by decide +kernel
theorem dX6_expires_28 : decode cX6_expires 28 = .ok (.if_icmp .ge 23, 3) := by decide +kernel
theorem dX6_expires_31 : decode cX6_expires 31 = .ok (.iload_n 2, 1) := by decide +kernel
theorem dX6_expires_32 : decode cX6_expires 32 = .ok (.iload_n 3, 1) := by decide +kernel
theorem dX6_expires_33 : decode cX6_expires 33 = .ok (.invokestatic 80, 3) := by decide +kernel
theorem dX6_expires_36 : decode cX6_expires 36 = .ok (.ifCond .eq 9, 3) := by decide +kernel
theorem dX6_expires_39 : decode cX6_expires 39 = .ok (.aload_n 0, 1) := by decide +kernel
theorem dX6_expires_40 : decode cX6_expires 40 = .ok (.iload_n 3, 1) := by decide +kernel
theorem dX6_expires_41 : decode cX6_expires 41 = .ok (.invokevirtual 156, 3) := by decide +kernel
theorem dX6_expires_44 : decode cX6_expires 44 = .ok (.pop, 1) := by decide +kernel
theorem dX6_expires_45 : decode cX6_expires 45 = .ok (.iinc 3 1, 3) := by decide +kernel
theorem dX6_expires_48 : decode cX6_expires 48 = .ok (.goto (-25), 3) := by decide +kernel
theorem dX6_expires_51 : decode cX6_expires 51 = .ok (.return_, 1) := by decide +kernel
set_option maxRecDepth 20000 in
theorem ggX6_pass_X6_isIn : GoodIn wsX6_pass wsX6_isIn := goodIn_r _ [9] (by decide +kernel) (by decide +kernel)
set_option maxRecDepth 20000 in
theorem gX6_pass_X6_isIn : GoodIn wsX6_pass (va_wsS RX6 66 yX6_isIn wsX6_isIn) := goodIn_app (goodIn_of _ (by decide +kernel)) ggX6_pass_X6_isIn
set_option maxRecDepth 20000 in
theorem ggX6_pass_X6_can : GoodIn wsX6_pass wsX6_can := goodIn_r _ [13, 14, 48, 49, 50, 51, 52, 53, 54, 55, 56, 57, 58, 59, 60, 61, 62, 63, 64, 65, 66, 67, 68, 69, 70, 71] (by decide +kernel) (by decide +kernel)
set_option maxRecDepth 20000 in
theorem gX6_pass_X6_can : GoodIn wsX6_pass (wsV RX6 76 RX6 yX6_can wsX6_can) := goodIn_app (goodIn_of _ (by decide +kernel)) ggX6_pass_X6_can
set_option maxRecDepth 20000 in
theorem ggX6_pass_X6_expires : GoodIn wsX6_pass wsX6_expires := goodIn_r _ [18, 19, 20, 21, 22, 23, 8, 24, 25, 26, 27, 28, 29, 4, 30, 31, 32, 33, 34, 35, 36, 37, 38, 39, 40, 41, 42, 43, 44, 45, 46, 47, 1, 48, 49, 50, 51, 52, 53, 54, 55, 56, 57, 58, 59, 60, 61, 62, 63, 64, 65, 66, 67, 68, 69, 70, 71] (by decide +kernel) (by decide +kernel)
set_option maxRecDepth 20000 in
theorem gX6_pass_X6_expires : GoodIn wsX6_pass (wsV RX6 163 RX6 yX6_expires wsX6_expires) := goodIn_app (goodIn_of _ (by decide +kernel)) ggX6_pass_X6_expires
theorem dX6_pass_0 : decode cX6_pass 0 = .ok (.aload_n 0, 1) := by decide +kernel
theorem dX6_pass_1 : decode cX6_pass 1 = .ok (.iload_n 1, 1) := by decide +kernel
theorem dX6_pass_2 : decode cX6_pass 2 = .ok (.iconst 1, 1) := by decide +kernel
theorem dX6_pass_3 : decode cX6_pass 3 = .ok (.sipush 1000, 3) := by decide +kernel
theorem dX6_pass_6 : decode cX6_pass 6 = .ok (.invokestatic 66, 3) := by decide +kernel
theorem dX6_pass_9 : decode cX6_pass 9 = .ok (.ifCond .ne 7, 3) := by decide +kernel
theorem dX6_pass_12 : decode cX6_pass 12 = .ok (.iconst 1, 1) := by decide +kernel
theorem dX6_pass_13 : decode cX6_pass 13 = .ok (.goto 19, 3) := by decide +kernel
theorem dX6_pass_16 : decode cX6_pass 16 = .ok (.aload_n 0, 1) := by decide +kernel
theorem dX6_pass_17 : decode cX6_pass 17 = .ok (.getfield 88, 3) := by decide +kernel
theorem dX6_pass_20 : decode cX6_pass 20 = .ok (.iload_n 1, 1) := by decide +kernel
theorem dX6_pass_21 : decode cX6_pass 21 = .ok (.iadd, 1) := by decide +kernel
theorem dX6_pass_22 : decode cX6_pass 22 = .ok (.ldc 162, 2) := by decide +kernel
theorem dX6_pass_24 : decode cX6_pass 24 = .ok (.if_icmp .le 7, 3) := by decide +kernel
theorem dX6_pass_27 : decode cX6_pass 27 = .ok (.iconst 2, 1) := by decide +kernel
theorem dX6_pass_28 : decode cX6_pass 28 = .ok (.goto 4, 3) := by decide +kernel
theorem dX6_pass_31 : decode cX6_pass 31 = .ok (.iconst 0, 1) := by decide +kernel
theorem dX6_pass_32 : decode cX6_pass 32 = .ok (.invokevirtual 76, 3) := by decide +kernel
theorem dX6_pass_35 : decode cX6_pass 35 = .ok (.ifCond .ne 5, 3) := by decide +kernel
theorem dX6_pass_38 : decode cX6_pass 38 = .ok (.iconst 0, 1) := by decide +kernel
theorem dX6_pass_39 : decode cX6_pass 39 = .ok (.ireturn, 1) := by decide +kernel
theorem dX6_pass_40 : decode cX6_pass 40 = .ok (.iconst 0, 1) := by decide +kernel
theorem dX6_pass_41 : decode cX6_pass 41 = .ok (.istore_n 2, 1) := by decide +kernel
theorem dX6_pass_42 : decode cX6_pass 42 = .ok (.iconst 0, 1) := by decide +kernel
theorem dX6_pass_43 : decode cX6_pass 43 = .ok (.istore_n 3, 1) := by decide +kernel
theorem dX6_pass_44 : decode cX6_pass 44 = .ok (.iload_n 3, 1) := by decide +kernel
theorem dX6_pass_45 : decode cX6_pass 45 = .ok (.iload_n 1, 1) := by decide +kernel
theorem dX6_pass_46 : decode cX6_pass 46 = .ok (.if_icmp .ge 72, 3) := by decide +kernel
theorem dX6_pass_49 : decode cX6_pass 49 = .ok (.aload_n 0, 1) := by decide +kernel
theorem dX6_pass_50 : decode cX6_pass 50 = .ok (.dup, 1) := by decide +kernel
theorem dX6_pass_51 : decode cX6_pass 51 = .ok (.getfield 88, 3) := by decide +kernel
theorem dX6_pass_54 : decode cX6_pass 54 = .ok (.iconst 1, 1) := by decide +kernel
theorem dX6_pass_55 : decode cX6_pass 55 = .ok (.iadd, 1) := by decide +kernel
theorem dX6_pass_56 : decode cX6_pass 56 = .ok (.putfield 88, 3) := by decide +kernel
theorem dX6_pass_59 : decode cX6_pass 59 = .ok (.iconst 0, 1) := by decide +kernel
theorem dX6_pass_60 : decode cX6_pass 60 = .ok (.istore 4, 2) := by decide +kernel
theorem dX6_pass_62 : decode cX6_pass 62 = .ok (.iload 4, 2) := by decide +kernel
theorem dX6_pass_64 : decode cX6_pass 64 = .ok (.aload_n 0, 1) := by decide +kernel
theorem dX6_pass_65 : decode cX6_pass 65 = .ok (.getfield 73, 3) := by decide +kernel
theorem dX6_pass_68 : decode cX6_pass 68 = .ok (.if_icmp .ge 44, 3) := by decide +kernel
theorem dX6_pass_71 : decode cX6_pass 71 = .ok (.aload_n 0, 1) := by decide +kernel
theorem dX6_pass_72 : decode cX6_pass 72 = .ok (.getfield 53, 3) := by decide +kernel
theorem dX6_pass_75 : decode cX6_pass 75 = .ok (.iload 4, 2) := by decide +kernel
theorem dX6_pass_77 : decode cX6_pass 77 = .ok (.iaload, 1) := by decide +kernel
theorem dX6_pass_78 : decode cX6_pass 78 = .ok (.ifCond .ne 28, 3) := by decide +kernel
theorem dX6_pass_81 : decode cX6_pass 81 = .ok (.aload_n 0, 1) := by decide +kernel
theorem dX6_pass_82 : decode cX6_pass 82 = .ok (.getfield 88, 3) := by decide +kernel
theorem dX6_pass_85 : decode cX6_pass 85 = .ok (.aload_n 0, 1) := by decide +kernel
theorem dX6_pass_86 : decode cX6_pass 86 = .ok (.getfield 47, 3) := by decide +kernel
theorem dX6_pass_89 : decode cX6_pass 89 = .ok (.iload 4, 2) := by decide +kernel
theorem dX6_pass_91 : decode cX6_pass 91 = .ok (.iaload, 1) := by decide +kernel
theorem dX6_pass_92 : decode cX6_pass 92 = .ok (.isub, 1) := by decide +kernel
theorem dX6_pass_93 : decode cX6_pass 93 = .ok (.iconst 3, 1) := by decide +kernel
theorem dX6_pass_94 : decode cX6_pass 94 = .ok (.if_icmp .lt 12, 3) := by decide +kernel
theorem dX6_pass_97 : decode cX6_pass 97 = .ok (.aload_n 0, 1) := by decide +kernel
theorem dX6_pass_98 : decode cX6_pass 98 = .ok (.iload 4, 2) := by decide +kernel
theorem dX6_pass_100 : decode cX6_pass 100 = .ok (.invokevirtual 163, 3) := by decide +kernel
theorem dX6_pass_103 : decode cX6_pass 103 = .ok (.iinc 2 1, 3) := by decide +kernel
theorem dX6_pass_106 : decode cX6_pass 106 = .ok (.iinc 4 1, 3) := by decide +kernel
theorem dX6_pass_109 : decode cX6_pass 109 = .ok (.goto (-47), 3) := by decide +kernel
theorem dX6_pass_112 : decode cX6_pass 112 = .ok (.iinc 3 1, 3) := by decide +kernel
theorem dX6_pass_115 : decode cX6_pass 115 = .ok (.goto (-71), 3) := by decide +kernel
theorem dX6_pass_118 : decode cX6_pass 118 = .ok (.iload_n 2, 1) := by decide +kernel
theorem dX6_pass_119 : decode cX6_pass 119 = .ok (.ireturn, 1) := by decide +kernel
theorem dX6_clock_0 : decode cX6_clock 0 = .ok (.aload_n 0, 1) := by decide +kernel
theorem dX6_clock_1 : decode cX6_clock 1 = .ok (.iconst 0, 1) := by decide +kernel
theorem dX6_clock_2 : decode cX6_clock 2 = .ok (.putfield 59, 3) := by decide +kernel
theorem dX6_clock_5 : decode cX6_clock 5 = .ok (.aload_n 0, 1) := by decide +kernel
theorem dX6_clock_6 : decode cX6_clock 6 = .ok (.getfield 88, 3) := by decide +kernel
theorem dX6_clock_9 : decode cX6_clock 9 = .ok (.ireturn, 1) := by decide +kernel
theorem dJ6_bitCount_0f7a4_0 : decode cJ6_bitCount_0f7a4 0 = .ok (.iload_n 0, 1) := by decide +kernel
theorem dJ6_bitCount_0f7a4_1 : decode cJ6_bitCount_0f7a4 1 = .ok (.iload_n 0, 1) := by decide +kernel
theorem dJ6_bitCount_0f7a4_2 : decode cJ6_bitCount_0f7a4 2 = .ok (.iconst 1, 1) := by decide +kernel
theorem dJ6_bitCount_0f7a4_3 : decode cJ6_bitCount_0f7a4 3 = .ok (.iushr, 1) := by decide +kernel
theorem dJ6_bitCount_0f7a4_4 : decode cJ6_bitCount_0f7a4 4 = .ok (.ldc_w 265, 3) := by decide +kernel
theorem dJ6_bitCount_0f7a4_7 : decode cJ6_bitCount_0f7a4 7 = .ok (.iand, 1) := by decide +kernel
theorem dJ6_bitCount_0f7a4_8 : decode cJ6_bitCount_0f7a4 8 = .ok (.isub, 1) := by decide +kernel
theorem dJ6_bitCount_0f7a4_9 : decode cJ6_bitCount_0f7a4 9 = .ok (.istore_n 0, 1) := by decide +kernel
theorem dJ6_bitCount_0f7a4_10 : decode cJ6_bitCount_0f7a4 10 = .ok (.iload_n 0, 1) := by decide +kernel
theorem dJ6_bitCount_0f7a4_11 : decode cJ6_bitCount_0f7a4 11 = .ok (.ldc_w 266, 3) := by decide +kernel
theorem dJ6_bitCount_0f7a4_14 : decode cJ6_bitCount_0f7a4 14 = .ok (.iand, 1) := by decide +kernel
theorem dJ6_bitCount_0f7a4_15 : decode cJ6_bitCount_0f7a4 15 = .ok (.iload_n 0, 1) := by decide +kernel
theorem dJ6_bitCount_0f7a4_16 : decode cJ6_bitCount_0f7a4 16 = .ok (.iconst 2, 1) := by decide +kernel
theorem dJ6_bitCount_0f7a4_17 : decode cJ6_bitCount_0f7a4 17 = .ok (.iushr, 1) := by decide +kernel
theorem dJ6_bitCount_0f7a4_18 : decode cJ6_bitCount_0f7a4 18 = .ok (.ldc_w 266, 3) := by decide +kernel
theorem dJ6_bitCount_0f7a4_21 : decode cJ6_bitCount_0f7a4 21 = .ok (.iand, 1) := by decide +kernel
theorem dJ6_bitCount_0f7a4_22 : decode cJ6_bitCount_0f7a4 22 = .ok (.iadd, 1) := by decide +kernel
theorem dJ6_bitCount_0f7a4_23 : decode cJ6_bitCount_0f7a4 23 = .ok (.istore_n 0, 1) := by decide +kernel
theorem dJ6_bitCount_0f7a4_24 : decode cJ6_bitCount_0f7a4 24 = .ok (.iload_n 0, 1) := by decide +kernel
theorem dJ6_bitCount_0f7a4_25 : decode cJ6_bitCount_0f7a4 25 = .ok (.iload_n 0, 1) := by decide +kernel
theorem dJ6_bitCount_0f7a4_26 : decode cJ6_bitCount_0f7a4 26 = .ok (.iconst 4, 1) := by decide +kernel
theorem dJ6_bitCount_0f7a4_27 : decode cJ6_bitCount_0f7a4 27 = .ok (.iushr, 1) := by decide +kernel
theorem dJ6_bitCount_0f7a4_28 : decode cJ6_bitCount_0f7a4 28 = .ok (.iadd, 1) := by decide +kernel
theorem dJ6_bitCount_0f7a4_29 : decode cJ6_bitCount_0f7a4 29 = .ok (.ldc_w 267, 3) := by decide +kernel
theorem dJ6_bitCount_0f7a4_32 : decode cJ6_bitCount_0f7a4 32 = .ok (.iand, 1) := by decide +kernel
theorem dJ6_bitCount_0f7a4_33 : decode cJ6_bitCount_0f7a4 33 = .ok (.istore_n 0, 1) := by decide +kernel
theorem dJ6_bitCount_0f7a4_34 : decode cJ6_bitCount_0f7a4 34 = .ok (.iload_n 0, 1) := by decide +kernel
theorem dJ6_bitCount_0f7a4_35 : decode cJ6_bitCount_0f7a4 35 = .ok (.iload_n 0, 1) := by decide +kernel
theorem dJ6_bitCount_0f7a4_36 : decode cJ6_bitCount_0f7a4 36 = .ok (.bipush 8, 2) := by decide +kernel
theorem dJ6_bitCount_0f7a4_38 : decode cJ6_bitCount_0f7a4 38 = .ok (.iushr, 1) := by decide +kernel
theorem dJ6_bitCount_0f7a4_39 : decode cJ6_bitCount_0f7a4 39 = .ok (.iadd, 1) := by decide +kernel
theorem dJ6_bitCount_0f7a4_40 : decode cJ6_bitCount_0f7a4 40 = .ok (.istore_n 0, 1) := by decide +kernel
theorem dJ6_bitCount_0f7a4_41 : decode cJ6_bitCount_0f7a4 41 = .ok (.iload_n 0, 1) := by decide +kernel
theorem dJ6_bitCount_0f7a4_42 : decode cJ6_bitCount_0f7a4 42 = .ok (.iload_n 0, 1) := by decide +kernel
theorem dJ6_bitCount_0f7a4_43 : decode cJ6_bitCount_0f7a4 43 = .ok (.bipush 16, 2) := by decide +kernel
theorem dJ6_bitCount_0f7a4_45 : decode cJ6_bitCount_0f7a4 45 = .ok (.iushr, 1) := by decide +kernel
theorem dJ6_bitCount_0f7a4_46 : decode cJ6_bitCount_0f7a4 46 = .ok (.iadd, 1) := by decide +kernel
theorem dJ6_bitCount_0f7a4_47 : decode cJ6_bitCount_0f7a4 47 = .ok (.istore_n 0, 1) := by decide +kernel
theorem dJ6_bitCount_0f7a4_48 : decode cJ6_bitCount_0f7a4 48 = .ok (.iload_n 0, 1) := by decide +kernel
theorem dJ6_bitCount_0f7a4_49 : decode cJ6_bitCount_0f7a4 49 = .ok (.bipush 63, 2) := by decide +kernel
theorem dJ6_bitCount_0f7a4_51 : decode cJ6_bitCount_0f7a4 51 = .ok (.iand, 1) := by decide +kernel
theorem dJ6_bitCount_0f7a4_52 : decode cJ6_bitCount_0f7a4 52 = .ok (.ireturn, 1) := by decide +kernel
theorem dJ9_floorDiv_7cf53_0 : decode cJ9_floorDiv_7cf53 0 = .ok (.iload_n 0, 1) := by decide +kernel
theorem dJ9_floorDiv_7cf53_1 : decode cJ9_floorDiv_7cf53 1 = .ok (.iload_n 1, 1) := by decide +kernel
theorem dJ9_floorDiv_7cf53_2 : decode cJ9_floorDiv_7cf53 2 = .ok (.idiv, 1) := by decide +kernel
theorem dJ9_floorDiv_7cf53_3 : decode cJ9_floorDiv_7cf53 3 = .ok (.istore_n 2, 1) := by decide +kernel
theorem dJ9_floorDiv_7cf53_4 : decode cJ9_floorDiv_7cf53 4 = .ok (.iload_n 0, 1) := by decide +kernel
theorem dJ9_floorDiv_7cf53_5 : decode cJ9_floorDiv_7cf53 5 = .ok (.iload_n 1, 1) := by decide +kernel
theorem dJ9_floorDiv_7cf53_6 : decode cJ9_floorDiv_7cf53 6 = .ok (.ixor, 1) := by decide +kernel
theorem dJ9_floorDiv_7cf53_7 : decode cJ9_floorDiv_7cf53 7 = .ok (.ifCond .ge 14, 3) := by decide +kernel
theorem dJ9_floorDiv_7cf53_10 : decode cJ9_floorDiv_7cf53 10 = .ok (.iload_n 2, 1) := by decide +kernel
theorem dJ9_floorDiv_7cf53_11 : decode cJ9_floorDiv_7cf53 11 = .ok (.iload_n 1, 1) := by decide +kernel
theorem dJ9_floorDiv_7cf53_12 : decode cJ9_floorDiv_7cf53 12 = .ok (.imul, 1) := by decide +kernel
theorem dJ9_floorDiv_7cf53_13 : decode cJ9_floorDiv_7cf53 13 = .ok (.iload_n 0, 1) := by decide +kernel
theorem dJ9_floorDiv_7cf53_14 : decode cJ9_floorDiv_7cf53 14 = .ok (.if_icmp .eq 7, 3) := by decide +kernel
theorem dJ9_floorDiv_7cf53_17 : decode cJ9_floorDiv_7cf53 17 = .ok (.iload_n 2, 1) := by decide +kernel
theorem dJ9_floorDiv_7cf53_18 : decode cJ9_floorDiv_7cf53 18 = .ok (.iconst 1, 1) := by decide +kernel
theorem dJ9_floorDiv_7cf53_19 : decode cJ9_floorDiv_7cf53 19 = .ok (.isub, 1) := by decide +kernel
theorem dJ9_floorDiv_7cf53_20 : decode cJ9_floorDiv_7cf53 20 = .ok (.ireturn, 1) := by decide +kernel
theorem dJ9_floorDiv_7cf53_21 : decode cJ9_floorDiv_7cf53 21 = .ok (.iload_n 2, 1) := by decide +kernel
theorem dJ9_floorDiv_7cf53_22 : decode cJ9_floorDiv_7cf53 22 = .ok (.ireturn, 1) := by decide +kernel
theorem dJ9_abs_0f7a4_0 : decode cJ9_abs_0f7a4 0 = .ok (.iload_n 0, 1) := by decide +kernel
theorem dJ9_abs_0f7a4_1 : decode cJ9_abs_0f7a4 1 = .ok (.ifCond .ge 8, 3) := by decide +kernel
theorem dJ9_abs_0f7a4_4 : decode cJ9_abs_0f7a4 4 = .ok (.iload_n 0, 1) := by decide +kernel
theorem dJ9_abs_0f7a4_5 : decode cJ9_abs_0f7a4 5 = .ok (.ineg, 1) := by decide +kernel
theorem dJ9_abs_0f7a4_6 : decode cJ9_abs_0f7a4 6 = .ok (.goto 4, 3) := by decide +kernel
theorem dJ9_abs_0f7a4_9 : decode cJ9_abs_0f7a4 9 = .ok (.iload_n 0, 1) := by decide +kernel
theorem dJ9_abs_0f7a4_10 : decode cJ9_abs_0f7a4 10 = .ok (.ireturn, 1) := by decide +kernel
theorem dJ9_max_7cf53_0 : decode cJ9_max_7cf53 0 = .ok (.iload_n 0, 1) := by decide +kernel
theorem dJ9_max_7cf53_1 : decode cJ9_max_7cf53 1 = .ok (.iload_n 1, 1) := by decide +kernel
theorem dJ9_max_7cf53_2 : decode cJ9_max_7cf53 2 = .ok (.if_icmp .lt 7, 3) := by decide +kernel
theorem dJ9_max_7cf53_5 : decode cJ9_max_7cf53 5 = .ok (.iload_n 0, 1) := by decide +kernel
theorem dJ9_max_7cf53_6 : decode cJ9_max_7cf53 6 = .ok (.goto 4, 3) := by decide +kernel
theorem dJ9_max_7cf53_9 : decode cJ9_max_7cf53 9 = .ok (.iload_n 1, 1) := by decide +kernel
theorem dJ9_max_7cf53_10 : decode cJ9_max_7cf53 10 = .ok (.ireturn, 1) := by decide +kernel
theorem dJ9_min_7cf53_0 : decode cJ9_min_7cf53 0 = .ok (.iload_n 0, 1) := by decide +kernel
theorem dJ9_min_7cf53_1 : decode cJ9_min_7cf53 1 = .ok (.iload_n 1, 1) := by decide +kernel
theorem dJ9_min_7cf53_2 : decode cJ9_min_7cf53 2 = .ok (.if_icmp .gt 7, 3) := by decide +kernel
theorem dJ9_min_7cf53_5 : decode cJ9_min_7cf53 5 = .ok (.iload_n 0, 1) := by decide +kernel
theorem dJ9_min_7cf53_6 : decode cJ9_min_7cf53 6 = .ok (.goto 4, 3) := by decide +kernel
theorem dJ9_min_7cf53_9 : decode cJ9_min_7cf53 9 = .ok (.iload_n 1, 1) := by decide +kernel
theorem dJ9_min_7cf53_10 : decode cJ9_min_7cf53 10 = .ok (.ireturn, 1) := by decide +kernel
theorem dJxa1e45_init_da8c8_0 : decode cJxa1e45_init_da8c8 0 = .ok (.aload_n 0, 1) := by decide +kernel
theorem dJxa1e45_init_da8c8_1 : decode cJxa1e45_init_da8c8 1 = .ok (.invokespecial 1, 3) := by decide +kernel
theorem dJxa1e45_init_da8c8_4 : decode cJxa1e45_init_da8c8 4 = .ok (.return_, 1) := by decide +kernel
set_option maxRecDepth 20000 in
theorem ggJxc12de_init_da8c8_Jxa1e45_init_da8c8 : GoodIn wsJxc12de_init_da8c8 wsJxa1e45_init_da8c8 := goodIn_r _ [5, 6, 7, 8] (by decide +kernel) (by decide +kernel)
set_option maxRecDepth 20000 in
theorem gJxc12de_init_da8c8_Jxa1e45_init_da8c8 : GoodIn wsJxc12de_init_da8c8 (wsJxa1e45_init_da8c8) := ggJxc12de_init_da8c8_Jxa1e45_init_da8c8
theorem dJxc12de_init_da8c8_0 : decode cJxc12de_init_da8c8 0 = .ok (.aload_n 0, 1) := by decide +kernel
theorem dJxc12de_init_da8c8_1 : decode cJxc12de_init_da8c8 1 = .ok (.invokespecial 1, 3) := by decide +kernel
theorem dJxc12de_init_da8c8_4 : decode cJxc12de_init_da8c8 4 = .ok (.aload_n 0, 1) := by decide +kernel
theorem dJxc12de_init_da8c8_5 : decode cJxc12de_init_da8c8 5 = .ok (.iconst 0, 1) := by decide +kernel
theorem dJxc12de_init_da8c8_6 : decode cJxc12de_init_da8c8 6 = .ok (.putfield 7, 3) := by decide +kernel
theorem dJxc12de_init_da8c8_9 : decode cJxc12de_init_da8c8 9 = .ok (.return_, 1) := by decide +kernel
set_option maxRecDepth 20000 in
theorem ggJx4a65c_init_da8c8_Jxc12de_init_da8c8 : GoodIn wsJx4a65c_init_da8c8 wsJxc12de_init_da8c8 := goodIn_r _ [6, 7, 8, 9, 10, 11, 12, 13, 14, 15, 16, 17] (by decide +kernel) (by decide +kernel)
set_option maxRecDepth 20000 in
theorem gJx4a65c_init_da8c8_Jxc12de_init_da8c8 : GoodIn wsJx4a65c_init_da8c8 (wsJxc12de_init_da8c8) := ggJx4a65c_init_da8c8_Jxc12de_init_da8c8
theorem dJx4a65c_init_da8c8_0 : decode cJx4a65c_init_da8c8 0 = .ok (.aload_n 0, 1) := by decide +kernel
theorem dJx4a65c_init_da8c8_1 : decode cJx4a65c_init_da8c8 1 = .ok (.invokespecial 1, 3) := by decide +kernel
theorem dJx4a65c_init_da8c8_4 : decode cJx4a65c_init_da8c8 4 = .ok (.aload_n 0, 1) := by decide +kernel
theorem dJx4a65c_init_da8c8_5 : decode cJx4a65c_init_da8c8 5 = .ok (.getstatic 39, 3) := by decide +kernel
theorem dJx4a65c_init_da8c8_8 : decode cJx4a65c_init_da8c8 8 = .ok (.putfield 9, 3) := by decide +kernel
theorem dJx4a65c_init_da8c8_11 : decode cJx4a65c_init_da8c8 11 = .ok (.return_, 1) := by decide +kernel
set_option maxRecDepth 20000 in
theorem ggJx4a65c_grow_92f84_J8_newLength_cabcc : GoodIn wsJx4a65c_grow_92f84 wsJ8_newLength_cabcc := goodIn_r _ [11, 12, 4, 5, 6, 13, 14, 15, 10, 16] (by decide +kernel) (by decide +kernel)
set_option maxRecDepth 20000 in
theorem gJx4a65c_grow_92f84_J8_newLength_cabcc : GoodIn wsJx4a65c_grow_92f84 (va_wsS RJx4a65c 73 yJ8_newLength_cabcc wsJ8_newLength_cabcc) := goodIn_app (goodIn_of _ (by decide +kernel)) ggJx4a65c_grow_92f84_J8_newLength_cabcc
set_option maxRecDepth 20000 in
theorem ggJx4a65c_grow_92f84_J7_copyOf_1904c : GoodIn wsJx4a65c_grow_92f84 wsJ7_copyOf_1904c := goodIn_r _ [20, 21, 22, 23, 24, 25, 26, 19, 27, 28, 29, 30, 31, 5, 32, 33, 34, 35, 36] (by decide +kernel) (by decide +kernel)
set_option maxRecDepth 20000 in
theorem gJx4a65c_grow_92f84_J7_copyOf_1904c : GoodIn wsJx4a65c_grow_92f84 (va_wsS RJx4a65c 66 yJ7_copyOf_1904c wsJ7_copyOf_1904c) := goodIn_app (goodIn_of _ (by decide +kernel)) ggJx4a65c_grow_92f84_J7_copyOf_1904c
theorem dJx4a65c_grow_92f84_0 : decode cJx4a65c_grow_92f84 0 = .ok (.aload_n 0, 1) := by decide +kernel
theorem dJx4a65c_grow_92f84_1 : decode cJx4a65c_grow_92f84 1 = .ok (.getfield 9, 3) := by decide +kernel
theorem dJx4a65c_grow_92f84_4 : decode cJx4a65c_grow_92f84 4 = .ok (.arraylength, 1) := by decide +kernel
theorem dJx4a65c_grow_92f84_5 : decode cJx4a65c_grow_92f84 5 = .ok (.istore_n 2, 1) := by decide +kernel
theorem dJx4a65c_grow_92f84_6 : decode cJx4a65c_grow_92f84 6 = .ok (.iload_n 2, 1) := by decide +kernel
theorem dJx4a65c_grow_92f84_7 : decode cJx4a65c_grow_92f84 7 = .ok (.ifCond .gt 13, 3) := by decide +kernel
theorem dJx4a65c_grow_92f84_10 : decode cJx4a65c_grow_92f84 10 = .ok (.aload_n 0, 1) := by decide +kernel
theorem dJx4a65c_grow_92f84_11 : decode cJx4a65c_grow_92f84 11 = .ok (.getfield 9, 3) := by decide +kernel
theorem dJx4a65c_grow_92f84_14 : decode cJx4a65c_grow_92f84 14 = .ok (.getstatic 39, 3) := by decide +kernel
theorem dJx4a65c_grow_92f84_17 : decode cJx4a65c_grow_92f84 17 = .ok (.if_acmp .eq 28, 3) := by decide +kernel
theorem dJx4a65c_grow_92f84_20 : decode cJx4a65c_grow_92f84 20 = .ok (.iload_n 2, 1) := by decide +kernel
theorem dJx4a65c_grow_92f84_21 : decode cJx4a65c_grow_92f84 21 = .ok (.iload_n 1, 1) := by decide +kernel
theorem dJx4a65c_grow_92f84_22 : decode cJx4a65c_grow_92f84 22 = .ok (.iload_n 2, 1) := by decide +kernel
theorem dJx4a65c_grow_92f84_23 : decode cJx4a65c_grow_92f84 23 = .ok (.isub, 1) := by decide +kernel
theorem dJx4a65c_grow_92f84_24 : decode cJx4a65c_grow_92f84 24 = .ok (.iload_n 2, 1) := by decide +kernel
theorem dJx4a65c_grow_92f84_25 : decode cJx4a65c_grow_92f84 25 = .ok (.iconst 1, 1) := by decide +kernel
theorem dJx4a65c_grow_92f84_26 : decode cJx4a65c_grow_92f84 26 = .ok (.ishr, 1) := by decide +kernel
theorem dJx4a65c_grow_92f84_27 : decode cJx4a65c_grow_92f84 27 = .ok (.invokestatic 73, 3) := by decide +kernel
theorem dJx4a65c_grow_92f84_30 : decode cJx4a65c_grow_92f84 30 = .ok (.istore_n 3, 1) := by decide +kernel
theorem dJx4a65c_grow_92f84_31 : decode cJx4a65c_grow_92f84 31 = .ok (.aload_n 0, 1) := by decide +kernel
theorem dJx4a65c_grow_92f84_32 : decode cJx4a65c_grow_92f84 32 = .ok (.aload_n 0, 1) := by decide +kernel
theorem dJx4a65c_grow_92f84_33 : decode cJx4a65c_grow_92f84 33 = .ok (.getfield 9, 3) := by decide +kernel
theorem dJx4a65c_grow_92f84_36 : decode cJx4a65c_grow_92f84 36 = .ok (.iload_n 3, 1) := by decide +kernel
theorem dJx4a65c_grow_92f84_37 : decode cJx4a65c_grow_92f84 37 = .ok (.invokestatic 66, 3) := by decide +kernel
theorem dJx4a65c_grow_92f84_40 : decode cJx4a65c_grow_92f84 40 = .ok (.dup_x1, 1) := by decide +kernel
theorem dJx4a65c_grow_92f84_41 : decode cJx4a65c_grow_92f84 41 = .ok (.putfield 9, 3) := by decide +kernel
theorem dJx4a65c_grow_92f84_44 : decode cJx4a65c_grow_92f84 44 = .ok (.areturn, 1) := by decide +kernel
theorem dJx4a65c_grow_92f84_45 : decode cJx4a65c_grow_92f84 45 = .ok (.aload_n 0, 1) := by decide +kernel
theorem dJx4a65c_grow_92f84_46 : decode cJx4a65c_grow_92f84 46 = .ok (.bipush 10, 2) := by decide +kernel
theorem dJx4a65c_grow_92f84_48 : decode cJx4a65c_grow_92f84 48 = .ok (.iload_n 1, 1) := by decide +kernel
theorem dJx4a65c_grow_92f84_49 : decode cJx4a65c_grow_92f84 49 = .ok (.invokestatic 79, 3) := by decide +kernel
theorem dJx4a65c_grow_92f84_52 : decode cJx4a65c_grow_92f84 52 = .ok (.anewarray 7, 3) := by decide +kernel
theorem dJx4a65c_grow_92f84_55 : decode cJx4a65c_grow_92f84 55 = .ok (.dup_x1, 1) := by decide +kernel
theorem dJx4a65c_grow_92f84_56 : decode cJx4a65c_grow_92f84 56 = .ok (.putfield 9, 3) := by decide +kernel
theorem dJx4a65c_grow_92f84_59 : decode cJx4a65c_grow_92f84 59 = .ok (.areturn, 1) := by decide +kernel
set_option maxRecDepth 20000 in
theorem ggJx4a65c_grow_d5877_Jx4a65c_grow_92f84 : GoodIn wsJx4a65c_grow_d5877 wsJx4a65c_grow_92f84 := goodIn_r _ [6, 7, 8, 9, 10, 11, 12, 13, 14, 15, 16, 17, 18, 19, 20, 21, 22, 23, 24, 25, 26, 27, 28, 29, 30, 31, 32, 33, 34, 35, 36, 37, 38, 39, 40, 41, 42, 43, 44, 45] (by decide +kernel) (by decide +kernel)
set_option maxRecDepth 20000 in
theorem gJx4a65c_grow_d5877_Jx4a65c_grow_92f84 : GoodIn wsJx4a65c_grow_d5877 (wsV RJx4a65c 69 RJx4a65c yJx4a65c_grow_92f84 wsJx4a65c_grow_92f84) := goodIn_app (goodIn_of _ (by decide +kernel)) ggJx4a65c_grow_d5877_Jx4a65c_grow_92f84
theorem dJx4a65c_grow_d5877_0 : decode cJx4a65c_grow_d5877 0 = .ok (.aload_n 0, 1) := by decide +kernel
theorem dJx4a65c_grow_d5877_1 : decode cJx4a65c_grow_d5877 1 = .ok (.aload_n 0, 1) := by decide +kernel
theorem dJx4a65c_grow_d5877_2 : decode cJx4a65c_grow_d5877 2 = .ok (.getfield 48, 3) := by decide +kernel
theorem dJx4a65c_grow_d5877_5 : decode cJx4a65c_grow_d5877 5 = .ok (.iconst 1, 1) := by decide +kernel
theorem dJx4a65c_grow_d5877_6 : decode cJx4a65c_grow_d5877 6 = .ok (.iadd, 1) := by decide +kernel
theorem dJx4a65c_grow_d5877_7 : decode cJx4a65c_grow_d5877 7 = .ok (.invokevirtual 69, 3) := by decide +kernel
theorem dJx4a65c_grow_d5877_10 : decode cJx4a65c_grow_d5877 10 = .ok (.areturn, 1) := by decide +kernel
theorem dJx4a65c_size_8abf5_0 : decode cJx4a65c_size_8abf5 0 = .ok (.aload_n 0, 1) := by decide +kernel
theorem dJx4a65c_size_8abf5_1 : decode cJx4a65c_size_8abf5 1 = .ok (.getfield 48, 3) := by decide +kernel
theorem dJx4a65c_size_8abf5_4 : decode cJx4a65c_size_8abf5 4 = .ok (.ireturn, 1) := by decide +kernel
theorem dJx4a65c_isEmpty_aae02_0 : decode cJx4a65c_isEmpty_aae02 0 = .ok (.aload_n 0, 1) := by decide +kernel
theorem dJx4a65c_isEmpty_aae02_1 : decode cJx4a65c_isEmpty_aae02 1 = .ok (.getfield 48, 3) := by decide +kernel
theorem dJx4a65c_isEmpty_aae02_4 : decode cJx4a65c_isEmpty_aae02 4 = .ok (.ifCond .ne 7, 3) := by decide +kernel
theorem dJx4a65c_isEmpty_aae02_7 : decode cJx4a65c_isEmpty_aae02 7 = .ok (.iconst 1, 1) := by decide +kernel
theorem dJx4a65c_isEmpty_aae02_8 : decode cJx4a65c_isEmpty_aae02 8 = .ok (.goto 4, 3) := by decide +kernel
theorem dJx4a65c_isEmpty_aae02_11 : decode cJx4a65c_isEmpty_aae02 11 = .ok (.iconst 0, 1) := by decide +kernel
theorem dJx4a65c_isEmpty_aae02_12 : decode cJx4a65c_isEmpty_aae02 12 = .ok (.ireturn, 1) := by decide +kernel
theorem dJx4a65c_elementData_915e3_0 : decode cJx4a65c_elementData_915e3 0 = .ok (.aload_n 0, 1) := by decide +kernel
theorem dJx4a65c_elementData_915e3_1 : decode cJx4a65c_elementData_915e3 1 = .ok (.getfield 9, 3) := by decide +kernel
theorem dJx4a65c_elementData_915e3_4 : decode cJx4a65c_elementData_915e3 4 = .ok (.iload_n 1, 1) := by decide +kernel
theorem dJx4a65c_elementData_915e3_5 : decode cJx4a65c_elementData_915e3 5 = .ok (.aaload, 1) := by decide +kernel
theorem dJx4a65c_elementData_915e3_6 : decode cJx4a65c_elementData_915e3 6 = .ok (.areturn, 1) := by decide +kernel
set_option maxRecDepth 20000 in
theorem ggJx4a65c_get_915e3_J15_checkIndex_7cf53 : GoodIn wsJx4a65c_get_915e3 wsJ15_checkIndex_7cf53 := goodIn_r _ [5, 6, 7, 8, 9] (by decide +kernel) (by decide +kernel)
set_option maxRecDepth 20000 in
theorem gJx4a65c_get_915e3_J15_checkIndex_7cf53 : GoodIn wsJx4a65c_get_915e3 (va_wsS RJx4a65c 118 yJ15_checkIndex_7cf53 wsJ15_checkIndex_7cf53) := goodIn_app (goodIn_of _ (by decide +kernel)) ggJx4a65c_get_915e3_J15_checkIndex_7cf53
set_option maxRecDepth 20000 in
theorem ggJx4a65c_get_915e3_Jx4a65c_elementData_915e3 : GoodIn wsJx4a65c_get_915e3 wsJx4a65c_elementData_915e3 := goodIn_r _ [14, 15, 16, 17, 18] (by decide +kernel) (by decide +kernel)
set_option maxRecDepth 20000 in
theorem gJx4a65c_get_915e3_Jx4a65c_elementData_915e3 : GoodIn wsJx4a65c_get_915e3 (wsV RJx4a65c 123 RJx4a65c yJx4a65c_elementData_915e3 wsJx4a65c_elementData_915e3) := goodIn_app (goodIn_of _ (by decide +kernel)) ggJx4a65c_get_915e3_Jx4a65c_elementData_915e3
theorem dJx4a65c_get_915e3_0 : decode cJx4a65c_get_915e3 0 = .ok (.iload_n 1, 1) := by decide +kernel
theorem dJx4a65c_get_915e3_1 : decode cJx4a65c_get_915e3 1 = .ok (.aload_n 0, 1) := by decide +kernel
theorem dJx4a65c_get_915e3_2 : decode cJx4a65c_get_915e3 2 = .ok (.getfield 48, 3) := by decide +kernel
theorem dJx4a65c_get_915e3_5 : decode cJx4a65c_get_915e3 5 = .ok (.invokestatic 118, 3) := by decide +kernel
theorem dJx4a65c_get_915e3_8 : decode cJx4a65c_get_915e3 8 = .ok (.pop, 1) := by decide +kernel
theorem dJx4a65c_get_915e3_9 : decode cJx4a65c_get_915e3 9 = .ok (.aload_n 0, 1) := by decide +kernel
theorem dJx4a65c_get_915e3_10 : decode cJx4a65c_get_915e3 10 = .ok (.iload_n 1, 1) := by decide +kernel
theorem dJx4a65c_get_915e3_11 : decode cJx4a65c_get_915e3 11 = .ok (.invokevirtual 123, 3) := by decide +kernel
theorem dJx4a65c_get_915e3_14 : decode cJx4a65c_get_915e3 14 = .ok (.areturn, 1) := by decide +kernel
set_option maxRecDepth 20000 in
theorem ggJx4a65c_add_72be8_Jx4a65c_grow_d5877 : GoodIn wsJx4a65c_add_72be8 wsJx4a65c_grow_d5877 := goodIn_r _ [6, 1, 7, 8, 9, 5, 10, 11, 12, 13, 14, 15, 16, 17, 18, 19, 20, 21, 22, 23, 24, 25, 26, 27, 28, 29, 30, 31, 32, 33, 34, 35, 36, 37, 38, 39, 40, 41, 42, 43, 44, 45, 46, 47, 48, 49] (by decide +kernel) (by decide +kernel)
set_option maxRecDepth 20000 in
theorem gJx4a65c_add_72be8_Jx4a65c_grow_d5877 : GoodIn wsJx4a65c_add_72be8 (wsV RJx4a65c 129 RJx4a65c yJx4a65c_grow_d5877 wsJx4a65c_grow_d5877) := goodIn_app (goodIn_of _ (by decide +kernel)) ggJx4a65c_add_72be8_Jx4a65c_grow_d5877
theorem dJx4a65c_add_72be8_0 : decode cJx4a65c_add_72be8 0 = .ok (.iload_n 3, 1) := by decide +kernel
theorem dJx4a65c_add_72be8_1 : decode cJx4a65c_add_72be8 1 = .ok (.aload_n 2, 1) := by decide +kernel
theorem dJx4a65c_add_72be8_2 : decode cJx4a65c_add_72be8 2 = .ok (.arraylength, 1) := by decide +kernel
theorem dJx4a65c_add_72be8_3 : decode cJx4a65c_add_72be8 3 = .ok (.if_icmp .ne 8, 3) := by decide +kernel
theorem dJx4a65c_add_72be8_6 : decode cJx4a65c_add_72be8 6 = .ok (.aload_n 0, 1) := by decide +kernel
theorem dJx4a65c_add_72be8_7 : decode cJx4a65c_add_72be8 7 = .ok (.invokevirtual 129, 3) := by decide +kernel
theorem dJx4a65c_add_72be8_10 : decode cJx4a65c_add_72be8 10 = .ok (.astore_n 2, 1) := by decide +kernel
theorem dJx4a65c_add_72be8_11 : decode cJx4a65c_add_72be8 11 = .ok (.aload_n 2, 1) := by decide +kernel
theorem dJx4a65c_add_72be8_12 : decode cJx4a65c_add_72be8 12 = .ok (.iload_n 3, 1) := by decide +kernel
theorem dJx4a65c_add_72be8_13 : decode cJx4a65c_add_72be8 13 = .ok (.aload_n 1, 1) := by decide +kernel
theorem dJx4a65c_add_72be8_14 : decode cJx4a65c_add_72be8 14 = .ok (.aastore, 1) := by decide +kernel
theorem dJx4a65c_add_72be8_15 : decode cJx4a65c_add_72be8 15 = .ok (.aload_n 0, 1) := by decide +kernel
theorem dJx4a65c_add_72be8_16 : decode cJx4a65c_add_72be8 16 = .ok (.iload_n 3, 1) := by decide +kernel
theorem dJx4a65c_add_72be8_17 : decode cJx4a65c_add_72be8 17 = .ok (.iconst 1, 1) := by decide +kernel
theorem dJx4a65c_add_72be8_18 : decode cJx4a65c_add_72be8 18 = .ok (.iadd, 1) := by decide +kernel
theorem dJx4a65c_add_72be8_19 : decode cJx4a65c_add_72be8 19 = .ok (.putfield 48, 3) := by decide +kernel
theorem dJx4a65c_add_72be8_22 : decode cJx4a65c_add_72be8 22 = .ok (.return_, 1) := by decide +kernel
set_option maxRecDepth 20000 in
theorem ggJx4a65c_add_9ea2d_Jx4a65c_add_72be8 : GoodIn wsJx4a65c_add_9ea2d wsJx4a65c_add_72be8 := goodIn_r _ [9, 4, 10, 11, 12, 8, 13, 14, 15, 16, 17, 3, 18, 19, 20, 21, 22, 23, 24, 25, 26, 27, 28, 29, 30, 31, 32, 33, 34, 35, 36, 37, 38, 39, 40, 41, 42, 43, 44, 45, 46, 47, 48, 49, 50, 51, 52, 53, 54, 55] (by decide +kernel) (by decide +kernel)
set_option maxRecDepth 20000 in
theorem gJx4a65c_add_9ea2d_Jx4a65c_add_72be8 : GoodIn wsJx4a65c_add_9ea2d (wsV RJx4a65c 131 RJx4a65c yJx4a65c_add_72be8 wsJx4a65c_add_72be8) := goodIn_app (goodIn_of _ (by decide +kernel)) ggJx4a65c_add_9ea2d_Jx4a65c_add_72be8
theorem dJx4a65c_add_9ea2d_0 : decode cJx4a65c_add_9ea2d 0 = .ok (.aload_n 0, 1) := by decide +kernel
theorem dJx4a65c_add_9ea2d_1 : decode cJx4a65c_add_9ea2d 1 = .ok (.dup, 1) := by decide +kernel
theorem dJx4a65c_add_9ea2d_2 : decode cJx4a65c_add_9ea2d 2 = .ok (.getfield 63, 3) := by decide +kernel
theorem dJx4a65c_add_9ea2d_5 : decode cJx4a65c_add_9ea2d 5 = .ok (.iconst 1, 1) := by decide +kernel
theorem dJx4a65c_add_9ea2d_6 : decode cJx4a65c_add_9ea2d 6 = .ok (.iadd, 1) := by decide +kernel
theorem dJx4a65c_add_9ea2d_7 : decode cJx4a65c_add_9ea2d 7 = .ok (.putfield 63, 3) := by decide +kernel
theorem dJx4a65c_add_9ea2d_10 : decode cJx4a65c_add_9ea2d 10 = .ok (.aload_n 0, 1) := by decide +kernel
theorem dJx4a65c_add_9ea2d_11 : decode cJx4a65c_add_9ea2d 11 = .ok (.aload_n 1, 1) := by decide +kernel
theorem dJx4a65c_add_9ea2d_12 : decode cJx4a65c_add_9ea2d 12 = .ok (.aload_n 0, 1) := by decide +kernel
theorem dJx4a65c_add_9ea2d_13 : decode cJx4a65c_add_9ea2d 13 = .ok (.getfield 9, 3) := by decide +kernel
theorem dJx4a65c_add_9ea2d_16 : decode cJx4a65c_add_9ea2d 16 = .ok (.aload_n 0, 1) := by decide +kernel
theorem dJx4a65c_add_9ea2d_17 : decode cJx4a65c_add_9ea2d 17 = .ok (.getfield 48, 3) := by decide +kernel
theorem dJx4a65c_add_9ea2d_20 : decode cJx4a65c_add_9ea2d 20 = .ok (.invokevirtual 131, 3) := by decide +kernel
theorem dJx4a65c_add_9ea2d_23 : decode cJx4a65c_add_9ea2d 23 = .ok (.iconst 1, 1) := by decide +kernel
theorem dJx4a65c_add_9ea2d_24 : decode cJx4a65c_add_9ea2d 24 = .ok (.ireturn, 1) := by decide +kernel
set_option maxRecDepth 20000 in
theorem ggJx4a65c_remove_915e3_J15_checkIndex_7cf53 : GoodIn wsJx4a65c_remove_915e3 wsJ15_checkIndex_7cf53 := goodIn_r _ [6, 7, 8, 9, 10] (by decide +kernel) (by decide +kernel)
set_option maxRecDepth 20000 in
theorem gJx4a65c_remove_915e3_J15_checkIndex_7cf53 : GoodIn wsJx4a65c_remove_915e3 (va_wsS RJx4a65c 118 yJ15_checkIndex_7cf53 wsJ15_checkIndex_7cf53) := goodIn_app (goodIn_of _ (by decide +kernel)) ggJx4a65c_remove_915e3_J15_checkIndex_7cf53
set_option maxRecDepth 20000 in
theorem ggJx4a65c_remove_915e3_Jx4a65c_fastRemove_b59b0 : GoodIn wsJx4a65c_remove_915e3 wsJx4a65c_fastRemove_b59b0 := goodIn_r _ [15, 16, 17, 1, 18, 19, 20, 21, 22, 23, 24] (by decide +kernel) (by decide +kernel)
set_option maxRecDepth 20000 in
theorem gJx4a65c_remove_915e3_Jx4a65c_fastRemove_b59b0 : GoodIn wsJx4a65c_remove_915e3 (wsV RJx4a65c 144 RJx4a65c yJx4a65c_fastRemove_b59b0 wsJx4a65c_fastRemove_b59b0) := goodIn_app (goodIn_of _ (by decide +kernel)) ggJx4a65c_remove_915e3_Jx4a65c_fastRemove_b59b0
theorem dJx4a65c_remove_915e3_0 : decode cJx4a65c_remove_915e3 0 = .ok (.iload_n 1, 1) := by decide +kernel
theorem dJx4a65c_remove_915e3_1 : decode cJx4a65c_remove_915e3 1 = .ok (.aload_n 0, 1) := by decide +kernel
theorem dJx4a65c_remove_915e3_2 : decode cJx4a65c_remove_915e3 2 = .ok (.getfield 48, 3) := by decide +kernel
theorem dJx4a65c_remove_915e3_5 : decode cJx4a65c_remove_915e3 5 = .ok (.invokestatic 118, 3) := by decide +kernel
theorem dJx4a65c_remove_915e3_8 : decode cJx4a65c_remove_915e3 8 = .ok (.pop, 1) := by decide +kernel
theorem dJx4a65c_remove_915e3_9 : decode cJx4a65c_remove_915e3 9 = .ok (.aload_n 0, 1) := by decide +kernel
theorem dJx4a65c_remove_915e3_10 : decode cJx4a65c_remove_915e3 10 = .ok (.getfield 9, 3) := by decide +kernel
theorem dJx4a65c_remove_915e3_13 : decode cJx4a65c_remove_915e3 13 = .ok (.astore_n 2, 1) := by decide +kernel
theorem dJx4a65c_remove_915e3_14 : decode cJx4a65c_remove_915e3 14 = .ok (.aload_n 2, 1) := by decide +kernel
theorem dJx4a65c_remove_915e3_15 : decode cJx4a65c_remove_915e3 15 = .ok (.iload_n 1, 1) := by decide +kernel
theorem dJx4a65c_remove_915e3_16 : decode cJx4a65c_remove_915e3 16 = .ok (.aaload, 1) := by decide +kernel
theorem dJx4a65c_remove_915e3_17 : decode cJx4a65c_remove_915e3 17 = .ok (.astore_n 3, 1) := by decide +kernel
theorem dJx4a65c_remove_915e3_18 : decode cJx4a65c_remove_915e3 18 = .ok (.aload_n 0, 1) := by decide +kernel
theorem dJx4a65c_remove_915e3_19 : decode cJx4a65c_remove_915e3 19 = .ok (.aload_n 2, 1) := by decide +kernel
theorem dJx4a65c_remove_915e3_20 : decode cJx4a65c_remove_915e3 20 = .ok (.iload_n 1, 1) := by decide +kernel
theorem dJx4a65c_remove_915e3_21 : decode cJx4a65c_remove_915e3 21 = .ok (.invokevirtual 144, 3) := by decide +kernel
theorem dJx4a65c_remove_915e3_24 : decode cJx4a65c_remove_915e3 24 = .ok (.aload_n 3, 1) := by decide +kernel
theorem dJx4a65c_remove_915e3_25 : decode cJx4a65c_remove_915e3 25 = .ok (.areturn, 1) := by decide +kernel
theorem dJx4a65c_fastRemove_b59b0_0 : decode cJx4a65c_fastRemove_b59b0 0 = .ok (.aload_n 0, 1) := by decide +kernel
theorem dJx4a65c_fastRemove_b59b0_1 : decode cJx4a65c_fastRemove_b59b0 1 = .ok (.dup, 1) := by decide +kernel
theorem dJx4a65c_fastRemove_b59b0_2 : decode cJx4a65c_fastRemove_b59b0 2 = .ok (.getfield 63, 3) := by decide +kernel
theorem dJx4a65c_fastRemove_b59b0_5 : decode cJx4a65c_fastRemove_b59b0 5 = .ok (.iconst 1, 1) := by decide +kernel
theorem dJx4a65c_fastRemove_b59b0_6 : decode cJx4a65c_fastRemove_b59b0 6 = .ok (.iadd, 1) := by decide +kernel
theorem dJx4a65c_fastRemove_b59b0_7 : decode cJx4a65c_fastRemove_b59b0 7 = .ok (.putfield 63, 3) := by decide +kernel
theorem dJx4a65c_fastRemove_b59b0_10 : decode cJx4a65c_fastRemove_b59b0 10 = .ok (.aload_n 0, 1) := by decide +kernel
theorem dJx4a65c_fastRemove_b59b0_11 : decode cJx4a65c_fastRemove_b59b0 11 = .ok (.getfield 48, 3) := by decide +kernel
theorem dJx4a65c_fastRemove_b59b0_14 : decode cJx4a65c_fastRemove_b59b0 14 = .ok (.iconst 1, 1) := by decide +kernel
theorem dJx4a65c_fastRemove_b59b0_15 : decode cJx4a65c_fastRemove_b59b0 15 = .ok (.isub, 1) := by decide +kernel
theorem dJx4a65c_fastRemove_b59b0_16 : decode cJx4a65c_fastRemove_b59b0 16 = .ok (.dup, 1) := by decide +kernel
theorem dJx4a65c_fastRemove_b59b0_17 : decode cJx4a65c_fastRemove_b59b0 17 = .ok (.istore_n 3, 1) := by decide +kernel
theorem dJx4a65c_fastRemove_b59b0_18 : decode cJx4a65c_fastRemove_b59b0 18 = .ok (.iload_n 2, 1) := by decide +kernel
theorem dJx4a65c_fastRemove_b59b0_19 : decode cJx4a65c_fastRemove_b59b0 19 = .ok (.if_icmp .le 15, 3) := by decide +kernel
theorem dJx4a65c_fastRemove_b59b0_22 : decode cJx4a65c_fastRemove_b59b0 22 = .ok (.aload_n 1, 1) := by decide +kernel
theorem dJx4a65c_fastRemove_b59b0_23 : decode cJx4a65c_fastRemove_b59b0 23 = .ok (.iload_n 2, 1) := by decide +kernel
theorem dJx4a65c_fastRemove_b59b0_24 : decode cJx4a65c_fastRemove_b59b0 24 = .ok (.iconst 1, 1) := by decide +kernel
theorem dJx4a65c_fastRemove_b59b0_25 : decode cJx4a65c_fastRemove_b59b0 25 = .ok (.iadd, 1) := by decide +kernel
theorem dJx4a65c_fastRemove_b59b0_26 : decode cJx4a65c_fastRemove_b59b0 26 = .ok (.aload_n 1, 1) := by decide +kernel
theorem dJx4a65c_fastRemove_b59b0_27 : decode cJx4a65c_fastRemove_b59b0 27 = .ok (.iload_n 2, 1) := by decide +kernel
theorem dJx4a65c_fastRemove_b59b0_28 : decode cJx4a65c_fastRemove_b59b0 28 = .ok (.iload_n 3, 1) := by decide +kernel
theorem dJx4a65c_fastRemove_b59b0_29 : decode cJx4a65c_fastRemove_b59b0 29 = .ok (.iload_n 2, 1) := by decide +kernel
theorem dJx4a65c_fastRemove_b59b0_30 : decode cJx4a65c_fastRemove_b59b0 30 = .ok (.isub, 1) := by decide +kernel
theorem dJx4a65c_fastRemove_b59b0_31 : decode cJx4a65c_fastRemove_b59b0 31 = .ok (.invokestatic 112, 3) := by decide +kernel
theorem dJx4a65c_fastRemove_b59b0_34 : decode cJx4a65c_fastRemove_b59b0 34 = .ok (.aload_n 1, 1) := by decide +kernel
theorem dJx4a65c_fastRemove_b59b0_35 : decode cJx4a65c_fastRemove_b59b0 35 = .ok (.aload_n 0, 1) := by decide +kernel
theorem dJx4a65c_fastRemove_b59b0_36 : decode cJx4a65c_fastRemove_b59b0 36 = .ok (.iload_n 3, 1) := by decide +kernel
theorem dJx4a65c_fastRemove_b59b0_37 : decode cJx4a65c_fastRemove_b59b0 37 = .ok (.dup_x1, 1) := by decide +kernel
theorem dJx4a65c_fastRemove_b59b0_38 : decode cJx4a65c_fastRemove_b59b0 38 = .ok (.putfield 48, 3) := by decide +kernel
theorem dJx4a65c_fastRemove_b59b0_41 : decode cJx4a65c_fastRemove_b59b0 41 = .ok (.aconst_null, 1) := by decide +kernel
theorem dJx4a65c_fastRemove_b59b0_42 : decode cJx4a65c_fastRemove_b59b0 42 = .ok (.aastore, 1) := by decide +kernel
theorem dJx4a65c_fastRemove_b59b0_43 : decode cJx4a65c_fastRemove_b59b0 43 = .ok (.return_, 1) := by decide +kernel
theorem dJx4a65c_clear_da8c8_0 : decode cJx4a65c_clear_da8c8 0 = .ok (.aload_n 0, 1) := by decide +kernel
theorem dJx4a65c_clear_da8c8_1 : decode cJx4a65c_clear_da8c8 1 = .ok (.dup, 1) := by decide +kernel
theorem dJx4a65c_clear_da8c8_2 : decode cJx4a65c_clear_da8c8 2 = .ok (.getfield 63, 3) := by decide +kernel
theorem dJx4a65c_clear_da8c8_5 : decode cJx4a65c_clear_da8c8 5 = .ok (.iconst 1, 1) := by decide +kernel
theorem dJx4a65c_clear_da8c8_6 : decode cJx4a65c_clear_da8c8 6 = .ok (.iadd, 1) := by decide +kernel
theorem dJx4a65c_clear_da8c8_7 : decode cJx4a65c_clear_da8c8 7 = .ok (.putfield 63, 3) := by decide +kernel
theorem dJx4a65c_clear_da8c8_10 : decode cJx4a65c_clear_da8c8 10 = .ok (.aload_n 0, 1) := by decide +kernel
theorem dJx4a65c_clear_da8c8_11 : decode cJx4a65c_clear_da8c8 11 = .ok (.getfield 9, 3) := by decide +kernel
theorem dJx4a65c_clear_da8c8_14 : decode cJx4a65c_clear_da8c8 14 = .ok (.astore_n 1, 1) := by decide +kernel
theorem dJx4a65c_clear_da8c8_15 : decode cJx4a65c_clear_da8c8 15 = .ok (.aload_n 0, 1) := by decide +kernel
theorem dJx4a65c_clear_da8c8_16 : decode cJx4a65c_clear_da8c8 16 = .ok (.getfield 48, 3) := by decide +kernel
theorem dJx4a65c_clear_da8c8_19 : decode cJx4a65c_clear_da8c8 19 = .ok (.istore_n 2, 1) := by decide +kernel
theorem dJx4a65c_clear_da8c8_20 : decode cJx4a65c_clear_da8c8 20 = .ok (.aload_n 0, 1) := by decide +kernel
theorem dJx4a65c_clear_da8c8_21 : decode cJx4a65c_clear_da8c8 21 = .ok (.iconst 0, 1) := by decide +kernel
theorem dJx4a65c_clear_da8c8_22 : decode cJx4a65c_clear_da8c8 22 = .ok (.dup_x1, 1) := by decide +kernel
theorem dJx4a65c_clear_da8c8_23 : decode cJx4a65c_clear_da8c8 23 = .ok (.putfield 48, 3) := by decide +kernel
theorem dJx4a65c_clear_da8c8_26 : decode cJx4a65c_clear_da8c8 26 = .ok (.istore_n 3, 1) := by decide +kernel
theorem dJx4a65c_clear_da8c8_27 : decode cJx4a65c_clear_da8c8 27 = .ok (.iload_n 3, 1) := by decide +kernel
theorem dJx4a65c_clear_da8c8_28 : decode cJx4a65c_clear_da8c8 28 = .ok (.iload_n 2, 1) := by decide +kernel
theorem dJx4a65c_clear_da8c8_29 : decode cJx4a65c_clear_da8c8 29 = .ok (.if_icmp .ge 13, 3) := by decide +kernel
theorem dJx4a65c_clear_da8c8_32 : decode cJx4a65c_clear_da8c8 32 = .ok (.aload_n 1, 1) := by decide +kernel
theorem dJx4a65c_clear_da8c8_33 : decode cJx4a65c_clear_da8c8 33 = .ok (.iload_n 3, 1) := by decide +kernel
theorem dJx4a65c_clear_da8c8_34 : decode cJx4a65c_clear_da8c8 34 = .ok (.aconst_null, 1) := by decide +kernel
theorem dJx4a65c_clear_da8c8_35 : decode cJx4a65c_clear_da8c8 35 = .ok (.aastore, 1) := by decide +kernel
theorem dJx4a65c_clear_da8c8_36 : decode cJx4a65c_clear_da8c8 36 = .ok (.iinc 3 1, 3) := by decide +kernel
theorem dJx4a65c_clear_da8c8_39 : decode cJx4a65c_clear_da8c8 39 = .ok (.goto (-12), 3) := by decide +kernel
theorem dJx4a65c_clear_da8c8_42 : decode cJx4a65c_clear_da8c8 42 = .ok (.return_, 1) := by decide +kernel
set_option maxRecDepth 20000 in
theorem ggJ7_copyOf_1904c_J7_copyOf_6403c : GoodIn wsJ7_copyOf_1904c wsJ7_copyOf_6403c := goodIn_r _ [8, 9, 10, 11, 12, 13, 14, 15, 16, 17, 18] (by decide +kernel) (by decide +kernel)
set_option maxRecDepth 20000 in
theorem gJ7_copyOf_1904c_J7_copyOf_6403c : GoodIn wsJ7_copyOf_1904c (va_wsS RJ7 300 yJ7_copyOf_6403c wsJ7_copyOf_6403c) := goodIn_app (goodIn_of _ (by decide +kernel)) ggJ7_copyOf_1904c_J7_copyOf_6403c
theorem dJ7_copyOf_1904c_0 : decode cJ7_copyOf_1904c 0 = .ok (.aload_n 0, 1) := by decide +kernel
theorem dJ7_copyOf_1904c_1 : decode cJ7_copyOf_1904c 1 = .ok (.iload_n 1, 1) := by decide +kernel
theorem dJ7_copyOf_1904c_2 : decode cJ7_copyOf_1904c 2 = .ok (.aload_n 0, 1) := by decide +kernel
theorem dJ7_copyOf_1904c_3 : decode cJ7_copyOf_1904c 3 = .ok (.invokevirtual 86, 3) := by decide +kernel
theorem dJ7_copyOf_1904c_6 : decode cJ7_copyOf_1904c 6 = .ok (.invokestatic 300, 3) := by decide +kernel
theorem dJ7_copyOf_1904c_9 : decode cJ7_copyOf_1904c 9 = .ok (.areturn, 1) := by decide +kernel
theorem dJ7_copyOf_6403c_0 : decode cJ7_copyOf_6403c 0 = .ok (.aload_n 2, 1) := by decide +kernel
theorem dJ7_copyOf_6403c_1 : decode cJ7_copyOf_6403c 1 = .ok (.ldc 110, 2) := by decide +kernel
theorem dJ7_copyOf_6403c_3 : decode cJ7_copyOf_6403c 3 = .ok (.if_acmp .ne 10, 3) := by decide +kernel
theorem dJ7_copyOf_6403c_6 : decode cJ7_copyOf_6403c 6 = .ok (.iload_n 1, 1) := by decide +kernel
theorem dJ7_copyOf_6403c_7 : decode cJ7_copyOf_6403c 7 = .ok (.anewarray 2, 3) := by decide +kernel
theorem dJ7_copyOf_6403c_10 : decode cJ7_copyOf_6403c 10 = .ok (.goto 14, 3) := by decide +kernel
theorem dJ7_copyOf_6403c_13 : decode cJ7_copyOf_6403c 13 = .ok (.aload_n 2, 1) := by decide +kernel
theorem dJ7_copyOf_6403c_14 : decode cJ7_copyOf_6403c 14 = .ok (.invokevirtual 90, 3) := by decide +kernel
theorem dJ7_copyOf_6403c_17 : decode cJ7_copyOf_6403c 17 = .ok (.iload_n 1, 1) := by decide +kernel
theorem dJ7_copyOf_6403c_18 : decode cJ7_copyOf_6403c 18 = .ok (.invokestatic 95, 3) := by decide +kernel
theorem dJ7_copyOf_6403c_21 : decode cJ7_copyOf_6403c 21 = .ok (.checkcast 110, 3) := by decide +kernel
theorem dJ7_copyOf_6403c_24 : decode cJ7_copyOf_6403c 24 = .ok (.astore_n 3, 1) := by decide +kernel
theorem dJ7_copyOf_6403c_25 : decode cJ7_copyOf_6403c 25 = .ok (.aload_n 0, 1) := by decide +kernel
theorem dJ7_copyOf_6403c_26 : decode cJ7_copyOf_6403c 26 = .ok (.iconst 0, 1) := by decide +kernel
theorem dJ7_copyOf_6403c_27 : decode cJ7_copyOf_6403c 27 = .ok (.aload_n 3, 1) := by decide +kernel
theorem dJ7_copyOf_6403c_28 : decode cJ7_copyOf_6403c 28 = .ok (.iconst 0, 1) := by decide +kernel
theorem dJ7_copyOf_6403c_29 : decode cJ7_copyOf_6403c 29 = .ok (.aload_n 0, 1) := by decide +kernel
theorem dJ7_copyOf_6403c_30 : decode cJ7_copyOf_6403c 30 = .ok (.arraylength, 1) := by decide +kernel
theorem dJ7_copyOf_6403c_31 : decode cJ7_copyOf_6403c 31 = .ok (.iload_n 1, 1) := by decide +kernel
theorem dJ7_copyOf_6403c_32 : decode cJ7_copyOf_6403c 32 = .ok (.invokestatic 304, 3) := by decide +kernel
theorem dJ7_copyOf_6403c_35 : decode cJ7_copyOf_6403c 35 = .ok (.invokestatic 150, 3) := by decide +kernel
theorem dJ7_copyOf_6403c_38 : decode cJ7_copyOf_6403c 38 = .ok (.aload_n 3, 1) := by decide +kernel
theorem dJ7_copyOf_6403c_39 : decode cJ7_copyOf_6403c 39 = .ok (.areturn, 1) := by decide +kernel
set_option maxRecDepth 20000 in
theorem ggJ15_checkIndex_7cf53_J3_checkIndex_8e157 : GoodIn wsJ15_checkIndex_7cf53 wsJ3_checkIndex_8e157 := goodIn_r _ [4] (by decide +kernel) (by decide +kernel)
set_option maxRecDepth 20000 in
theorem gJ15_checkIndex_7cf53_J3_checkIndex_8e157 : GoodIn wsJ15_checkIndex_7cf53 (va_wsS RJ15 105 yJ3_checkIndex_8e157 wsJ3_checkIndex_8e157) := goodIn_app (goodIn_of _ (by decide +kernel)) ggJ15_checkIndex_7cf53_J3_checkIndex_8e157
theorem dJ15_checkIndex_7cf53_0 : decode cJ15_checkIndex_7cf53 0 = .ok (.iload_n 0, 1) := by decide +kernel
theorem dJ15_checkIndex_7cf53_1 : decode cJ15_checkIndex_7cf53 1 = .ok (.iload_n 1, 1) := by decide +kernel
theorem dJ15_checkIndex_7cf53_2 : decode cJ15_checkIndex_7cf53 2 = .ok (.aconst_null, 1) := by decide +kernel
theorem dJ15_checkIndex_7cf53_3 : decode cJ15_checkIndex_7cf53 3 = .ok (.invokestatic 105, 3) := by decide +kernel
theorem dJ15_checkIndex_7cf53_6 : decode cJ15_checkIndex_7cf53 6 = .ok (.ireturn, 1) := by decide +kernel
set_option maxRecDepth 20000 in
theorem ggJ8_newLength_cabcc_J8_hugeLength_7cf53 : GoodIn wsJ8_newLength_cabcc wsJ8_hugeLength_7cf53 := goodIn_r _ [9, 5] (by decide +kernel) (by decide +kernel)
set_option maxRecDepth 20000 in
theorem gJ8_newLength_cabcc_J8_hugeLength_7cf53 : GoodIn wsJ8_newLength_cabcc (va_wsS RJ8 201 yJ8_hugeLength_7cf53 wsJ8_hugeLength_7cf53) := goodIn_app (goodIn_of _ (by decide +kernel)) ggJ8_newLength_cabcc_J8_hugeLength_7cf53
theorem dJ8_newLength_cabcc_0 : decode cJ8_newLength_cabcc 0 = .ok (.iload_n 0, 1) := by decide +kernel
theorem dJ8_newLength_cabcc_1 : decode cJ8_newLength_cabcc 1 = .ok (.iload_n 1, 1) := by decide +kernel
theorem dJ8_newLength_cabcc_2 : decode cJ8_newLength_cabcc 2 = .ok (.iload_n 2, 1) := by decide +kernel
theorem dJ8_newLength_cabcc_3 : decode cJ8_newLength_cabcc 3 = .ok (.invokestatic 194, 3) := by decide +kernel
theorem dJ8_newLength_cabcc_6 : decode cJ8_newLength_cabcc 6 = .ok (.iadd, 1) := by decide +kernel
theorem dJ8_newLength_cabcc_7 : decode cJ8_newLength_cabcc 7 = .ok (.istore_n 3, 1) := by decide +kernel
theorem dJ8_newLength_cabcc_8 : decode cJ8_newLength_cabcc 8 = .ok (.iconst 0, 1) := by decide +kernel
theorem dJ8_newLength_cabcc_9 : decode cJ8_newLength_cabcc 9 = .ok (.iload_n 3, 1) := by decide +kernel
theorem dJ8_newLength_cabcc_10 : decode cJ8_newLength_cabcc 10 = .ok (.if_icmp .ge 11, 3) := by decide +kernel
theorem dJ8_newLength_cabcc_13 : decode cJ8_newLength_cabcc 13 = .ok (.iload_n 3, 1) := by decide +kernel
theorem dJ8_newLength_cabcc_14 : decode cJ8_newLength_cabcc 14 = .ok (.ldc 200, 2) := by decide +kernel
theorem dJ8_newLength_cabcc_16 : decode cJ8_newLength_cabcc 16 = .ok (.if_icmp .gt 5, 3) := by decide +kernel
theorem dJ8_newLength_cabcc_19 : decode cJ8_newLength_cabcc 19 = .ok (.iload_n 3, 1) := by decide +kernel
theorem dJ8_newLength_cabcc_20 : decode cJ8_newLength_cabcc 20 = .ok (.ireturn, 1) := by decide +kernel
theorem dJ8_newLength_cabcc_21 : decode cJ8_newLength_cabcc 21 = .ok (.iload_n 0, 1) := by decide +kernel
theorem dJ8_newLength_cabcc_22 : decode cJ8_newLength_cabcc 22 = .ok (.iload_n 1, 1) := by decide +kernel
theorem dJ8_newLength_cabcc_23 : decode cJ8_newLength_cabcc 23 = .ok (.invokestatic 201, 3) := by decide +kernel
theorem dJ8_newLength_cabcc_26 : decode cJ8_newLength_cabcc 26 = .ok (.ireturn, 1) := by decide +kernel
theorem dJ8_hugeLength_7cf53_0 : decode cJ8_hugeLength_7cf53 0 = .ok (.iload_n 0, 1) := by decide +kernel
theorem dJ8_hugeLength_7cf53_1 : decode cJ8_hugeLength_7cf53 1 = .ok (.iload_n 1, 1) := by decide +kernel
theorem dJ8_hugeLength_7cf53_2 : decode cJ8_hugeLength_7cf53 2 = .ok (.iadd, 1) := by decide +kernel
theorem dJ8_hugeLength_7cf53_3 : decode cJ8_hugeLength_7cf53 3 = .ok (.istore_n 2, 1) := by decide +kernel
theorem dJ8_hugeLength_7cf53_4 : decode cJ8_hugeLength_7cf53 4 = .ok (.iload_n 2, 1) := by decide +kernel
theorem dJ8_hugeLength_7cf53_5 : decode cJ8_hugeLength_7cf53 5 = .ok (.ifCond .ge 44, 3) := by decide +kernel
theorem dJ8_hugeLength_7cf53_8 : decode cJ8_hugeLength_7cf53 8 = .ok (.new 204, 3) := by decide +kernel
theorem dJ8_hugeLength_7cf53_11 : decode cJ8_hugeLength_7cf53 11 = .ok (.dup, 1) := by decide +kernel
theorem dJ8_hugeLength_7cf53_12 : decode cJ8_hugeLength_7cf53 12 = .ok (.new 89, 3) := by decide +kernel
theorem dJ8_hugeLength_7cf53_15 : decode cJ8_hugeLength_7cf53 15 = .ok (.dup, 1) := by decide +kernel
theorem dJ8_hugeLength_7cf53_16 : decode cJ8_hugeLength_7cf53 16 = .ok (.invokespecial 91, 3) := by decide +kernel
theorem dJ8_hugeLength_7cf53_19 : decode cJ8_hugeLength_7cf53 19 = .ok (.ldc 206, 2) := by decide +kernel
theorem dJ8_hugeLength_7cf53_21 : decode cJ8_hugeLength_7cf53 21 = .ok (.invokevirtual 94, 3) := by decide +kernel
theorem dJ8_hugeLength_7cf53_24 : decode cJ8_hugeLength_7cf53 24 = .ok (.iload_n 0, 1) := by decide +kernel
theorem dJ8_hugeLength_7cf53_25 : decode cJ8_hugeLength_7cf53 25 = .ok (.invokevirtual 98, 3) := by decide +kernel
theorem dJ8_hugeLength_7cf53_28 : decode cJ8_hugeLength_7cf53 28 = .ok (.ldc 208, 2) := by decide +kernel
theorem dJ8_hugeLength_7cf53_30 : decode cJ8_hugeLength_7cf53 30 = .ok (.invokevirtual 94, 3) := by decide +kernel
theorem dJ8_hugeLength_7cf53_33 : decode cJ8_hugeLength_7cf53 33 = .ok (.iload_n 1, 1) := by decide +kernel
theorem dJ8_hugeLength_7cf53_34 : decode cJ8_hugeLength_7cf53 34 = .ok (.invokevirtual 98, 3) := by decide +kernel
theorem dJ8_hugeLength_7cf53_37 : decode cJ8_hugeLength_7cf53 37 = .ok (.ldc 210, 2) := by decide +kernel
theorem dJ8_hugeLength_7cf53_39 : decode cJ8_hugeLength_7cf53 39 = .ok (.invokevirtual 94, 3) := by decide +kernel
theorem dJ8_hugeLength_7cf53_42 : decode cJ8_hugeLength_7cf53 42 = .ok (.invokevirtual 101, 3) := by decide +kernel
theorem dJ8_hugeLength_7cf53_45 : decode cJ8_hugeLength_7cf53 45 = .ok (.invokespecial 212, 3) := by decide +kernel
theorem dJ8_hugeLength_7cf53_48 : decode cJ8_hugeLength_7cf53 48 = .ok (.athrow, 1) := by decide +kernel
theorem dJ8_hugeLength_7cf53_49 : decode cJ8_hugeLength_7cf53 49 = .ok (.iload_n 2, 1) := by decide +kernel
theorem dJ8_hugeLength_7cf53_50 : decode cJ8_hugeLength_7cf53 50 = .ok (.ldc 200, 2) := by decide +kernel
theorem dJ8_hugeLength_7cf53_52 : decode cJ8_hugeLength_7cf53 52 = .ok (.if_icmp .gt 6, 3) := by decide +kernel
theorem dJ8_hugeLength_7cf53_55 : decode cJ8_hugeLength_7cf53 55 = .ok (.ldc 200, 2) := by decide +kernel
theorem dJ8_hugeLength_7cf53_57 : decode cJ8_hugeLength_7cf53 57 = .ok (.ireturn, 1) := by decide +kernel
theorem dJ8_hugeLength_7cf53_58 : decode cJ8_hugeLength_7cf53 58 = .ok (.iload_n 2, 1) := by decide +kernel
theorem dJ8_hugeLength_7cf53_59 : decode cJ8_hugeLength_7cf53 59 = .ok (.ireturn, 1) := by decide +kernel
theorem dJ3_checkIndex_8e157_0 : decode cJ3_checkIndex_8e157 0 = .ok (.iload_n 0, 1) := by decide +kernel
theorem dJ3_checkIndex_8e157_1 : decode cJ3_checkIndex_8e157 1 = .ok (.ifCond .lt 8, 3) := by decide +kernel
theorem dJ3_checkIndex_8e157_4 : decode cJ3_checkIndex_8e157 4 = .ok (.iload_n 0, 1) := by decide +kernel
theorem dJ3_checkIndex_8e157_5 : decode cJ3_checkIndex_8e157 5 = .ok (.iload_n 1, 1) := by decide +kernel
theorem dJ3_checkIndex_8e157_6 : decode cJ3_checkIndex_8e157 6 = .ok (.if_icmp .lt 10, 3) := by decide +kernel
theorem dJ3_checkIndex_8e157_9 : decode cJ3_checkIndex_8e157 9 = .ok (.aload_n 2, 1) := by decide +kernel
theorem dJ3_checkIndex_8e157_10 : decode cJ3_checkIndex_8e157 10 = .ok (.iload_n 0, 1) := by decide +kernel
theorem dJ3_checkIndex_8e157_11 : decode cJ3_checkIndex_8e157 11 = .ok (.iload_n 1, 1) := by decide +kernel
theorem dJ3_checkIndex_8e157_12 : decode cJ3_checkIndex_8e157 12 = .ok (.invokestatic 95, 3) := by decide +kernel
theorem dJ3_checkIndex_8e157_15 : decode cJ3_checkIndex_8e157 15 = .ok (.athrow, 1) := by decide +kernel
theorem dJ3_checkIndex_8e157_16 : decode cJ3_checkIndex_8e157 16 = .ok (.iload_n 0, 1) := by decide +kernel
theorem dJ3_checkIndex_8e157_17 : decode cJ3_checkIndex_8e157 17 = .ok (.ireturn, 1) := by decide +kernel
