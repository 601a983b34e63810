theorem dX7_readTest_3 : decode cX7_readTest 3 = .ok (.sipush 400, 3) := by decide +kernel
theorem dX7_readTest_6 : decode cX7_readTest 6 = .ok (.if_icmp .ge 93, 3) := by decide +kernel
theorem dX7_readTest_9 : decode cX7_readTest 9 = .ok (.aload_n 0, 1) := by decide +kernel
theorem dX7_readTest_10 : decode cX7_readTest 10 = .ok (.iload_n 1, 1) := by decide +kernel
theorem dX7_readTest_11 : decode cX7_readTest 11 = .ok (.invokevirtual 68, 3) := by decide +kernel
theorem dX7_readTest_14 : decode cX7_readTest 14 = .ok (.iconst 0, 1) := by decide +kernel
theorem dX7_readTest_15 : decode cX7_readTest 15 = .ok (.istore_n 3, 1) := by decide +kernel
theorem dX7_readTest_16 : decode cX7_readTest 16 = .ok (.iload_n 3, 1) := by decide +kernel
theorem dX7_readTest_17 : decode cX7_readTest 17 = .ok (.sipush 400, 3) := by decide +kernel
theorem dX7_readTest_20 : decode cX7_readTest 20 = .ok (.if_icmp .ge 41, 3) := by decide +kernel
theorem dX7_readTest_23 : decode cX7_readTest 23 = .ok (.aload_n 0, 1) := by decide +kernel
theorem dX7_readTest_24 : decode cX7_readTest 24 = .ok (.getfield 26, 3) := by decide +kernel
theorem dX7_readTest_27 : decode cX7_readTest 27 = .ok (.invokevirtual 41, 3) := by decide +kernel
theorem dX7_readTest_30 : decode cX7_readTest 30 = .ok (.sipush 268, 3) := by decide +kernel
theorem dX7_readTest_33 : decode cX7_readTest 33 = .ok (.if_icmp .ne 28, 3) := by decide +kernel
theorem dX7_readTest_36 : decode cX7_readTest 36 = .ok (.aload_n 0, 1) := by decide +kernel
theorem dX7_readTest_37 : decode cX7_readTest 37 = .ok (.getfield 26, 3) := by decide +kernel
theorem dX7_readTest_40 : decode cX7_readTest 40 = .ok (.invokevirtual 59, 3) := by decide +kernel
theorem dX7_readTest_43 : decode cX7_readTest 43 = .ok (.aload_n 0, 1) := by decide +kernel
theorem dX7_readTest_44 : decode cX7_readTest 44 = .ok (.iload_n 1, 1) := by decide +kernel
theorem dX7_readTest_45 : decode cX7_readTest 45 = .ok (.invokevirtual 68, 3) := by decide +kernel
theorem dX7_readTest_48 : decode cX7_readTest 48 = .ok (.aload_n 0, 1) := by decide +kernel
theorem dX7_readTest_49 : decode cX7_readTest 49 = .ok (.sipush (-268), 3) := by decide +kernel
theorem dX7_readTest_52 : decode cX7_readTest 52 = .ok (.invokevirtual 71, 3) := by decide +kernel
theorem dX7_readTest_55 : decode cX7_readTest 55 = .ok (.iinc 3 1, 3) := by decide +kernel
theorem dX7_readTest_58 : decode cX7_readTest 58 = .ok (.goto (-42), 3) := by decide +kernel
theorem dX7_readTest_61 : decode cX7_readTest 61 = .ok (.iload_n 2, 1) := by decide +kernel
theorem dX7_readTest_62 : decode cX7_readTest 62 = .ok (.ifCond .le 10, 3) := by decide +kernel
theorem dX7_readTest_65 : decode cX7_readTest 65 = .ok (.aload_n 0, 1) := by decide +kernel
theorem dX7_readTest_66 : decode cX7_readTest 66 = .ok (.sipush (-267), 3) := by decide +kernel
theorem dX7_readTest_69 : decode cX7_readTest 69 = .ok (.invokevirtual 71, 3) := by decide +kernel
theorem dX7_readTest_72 : decode cX7_readTest 72 = .ok (.aload_n 0, 1) := by decide +kernel
theorem dX7_readTest_73 : decode cX7_readTest 73 = .ok (.getfield 26, 3) := by decide +kernel
theorem dX7_readTest_76 : decode cX7_readTest 76 = .ok (.invokevirtual 41, 3) := by decide +kernel
theorem dX7_readTest_79 : decode cX7_readTest 79 = .ok (.sipush 267, 3) := by decide +kernel
theorem dX7_readTest_82 : decode cX7_readTest 82 = .ok (.if_icmp .eq 4, 3) := by decide +kernel
theorem dX7_readTest_85 : decode cX7_readTest 85 = .ok (.return_, 1) := by decide +kernel
theorem dX7_readTest_86 : decode cX7_readTest 86 = .ok (.aload_n 0, 1) := by decide +kernel
theorem dX7_readTest_87 : decode cX7_readTest 87 = .ok (.getfield 26, 3) := by decide +kernel
theorem dX7_readTest_90 : decode cX7_readTest 90 = .ok (.invokevirtual 59, 3) := by decide +kernel
theorem dX7_readTest_93 : decode cX7_readTest 93 = .ok (.iinc 2 1, 3) := by decide +kernel
theorem dX7_readTest_96 : decode cX7_readTest 96 = .ok (.goto (-94), 3) := by decide +kernel
theorem dX7_readTest_99 : decode cX7_readTest 99 = .ok (.return_, 1) := by decide +kernel
set_option maxRecDepth 20000 in
theorem ggX7_readFact_X10_kind : GoodIn wsX7_readFact wsX10_kind := goodIn_r _ [6, 7, 8, 9, 10, 63, 64, 65, 66, 67, 68] rfl (by decide +kernel)
set_option maxRecDepth 20000 in
theorem gX7_readFact_X10_kind : GoodIn wsX7_readFact (wsV RX7 41 RX10 yX10_kind wsX10_kind) := goodIn_app (goodIn_of _ (by decide +kernel)) ggX7_readFact_X10_kind
set_option maxRecDepth 20000 in
theorem ggX7_readFact_X10_next : GoodIn wsX7_readFact wsX10_next := goodIn_r _ [14, 8, 9, 63, 64, 65, 66, 67, 68] rfl (by decide +kernel)
set_option maxRecDepth 20000 in
theorem gX7_readFact_X10_next : GoodIn wsX7_readFact (wsV RX7 59 RX10 yX10_next wsX10_next) := goodIn_app (goodIn_of _ (by decide +kernel)) ggX7_readFact_X10_next
set_option maxRecDepth 20000 in
theorem ggX7_readFact_X10_fail : GoodIn wsX7_readFact wsX10_fail := goodIn_r _ [18, 7, 8, 9, 19, 63, 64, 65, 66, 67, 68] rfl (by decide +kernel)
set_option maxRecDepth 20000 in
theorem gX7_readFact_X10_fail : GoodIn wsX7_readFact (wsV RX7 56 RX10 yX10_fail wsX10_fail) := goodIn_app (goodIn_of _ (by decide +kernel)) ggX7_readFact_X10_fail
set_option maxRecDepth 20000 in
theorem ggX7_readFact_X7_readTest : GoodIn wsX7_readFact wsX7_readTest := goodIn_r _ [52, 1, 53, 54, 55, 23, 2, 3, 4, 5, 6, 7, 8, 9, 10, 11, 12, 13, 14, 42, 43, 44, 45, 46, 47, 0, 15, 16, 17, 18, 19, 20, 21, 22, 24, 25, 26, 27, 28, 29, 30, 31, 32, 33, 34, 35, 36, 37, 38, 39, 40, 41, 48, 49, 50, 51, 56, 57, 58, 59, 60, 61, 62, 63, 64, 65, 66, 67, 68] rfl (by decide +kernel)
set_option maxRecDepth 20000 in
theorem gX7_readFact_X7_readTest : GoodIn wsX7_readFact (wsV RX7 65 RX7 yX7_readTest wsX7_readTest) := goodIn_app (goodIn_of _ (by decide +kernel)) ggX7_readFact_X7_readTest
set_option maxRecDepth 20000 in
theorem ggX7_readFact_X7_takeSign : GoodIn wsX7_readFact wsX7_takeSign := goodIn_r _ [27, 1, 15, 16, 17, 5, 18, 7, 8, 9, 19, 11, 12, 13, 14, 56, 57, 58, 59, 60, 61, 62, 63, 64, 65, 66, 67, 68] rfl (by decide +kernel)
set_option maxRecDepth 20000 in
theorem gX7_readFact_X7_takeSign : GoodIn wsX7_readFact (wsV RX7 74 RX7 yX7_takeSign wsX7_takeSign) := goodIn_app (goodIn_of _ (by decide +kernel)) ggX7_readFact_X7_takeSign
set_option maxRecDepth 20000 in
theorem ggX7_readFact_X7_readSum : GoodIn wsX7_readFact wsX7_readSum := goodIn_r _ [31, 1, 32, 33, 34, 23, 35, 36, 2, 3, 4, 5, 6, 7, 8, 9, 10, 15, 16, 17, 18, 19, 37, 38, 39, 40, 41, 42, 43, 44, 45, 46, 47, 11, 12, 13, 14, 56, 57, 58, 59, 60, 61, 62, 63, 64, 65, 66, 67, 68] rfl (by decide +kernel)
set_option maxRecDepth 20000 in
theorem gX7_readFact_X7_readSum : GoodIn wsX7_readFact (wsV RX7 62 RX7 yX7_readSum wsX7_readSum) := goodIn_app (goodIn_of _ (by decide +kernel)) ggX7_readFact_X7_readSum
set_option maxRecDepth 20000 in
theorem ggX7_readFact_X7_takeFactSign : GoodIn wsX7_readFact wsX7_takeFactSign := goodIn_r _ [51, 36, 1, 15, 16, 17, 5, 18, 7, 8, 9, 19, 24, 25, 26, 23, 27, 11, 12, 13, 14, 56, 57, 58, 59, 60, 61, 62, 63, 64, 65, 66, 67, 68] rfl (by decide +kernel)
set_option maxRecDepth 20000 in
theorem gX7_readFact_X7_takeFactSign : GoodIn wsX7_readFact (wsV RX7 78 RX7 yX7_takeFactSign wsX7_takeFactSign) := goodIn_app (goodIn_of _ (by decide +kernel)) ggX7_readFact_X7_takeFactSign
set_option maxRecDepth 20000 in
theorem ggX7_readFact_X7_put : GoodIn wsX7_readFact wsX7_put := goodIn_r _ [45, 46, 47, 56, 57, 58, 59, 60, 61, 62] rfl (by decide +kernel)
set_option maxRecDepth 20000 in
theorem gX7_readFact_X7_put : GoodIn wsX7_readFact (wsV RX7 71 RX7 yX7_put wsX7_put) := goodIn_app (goodIn_of _ (by decide +kernel)) ggX7_readFact_X7_put
theorem dX7_readFact_0 : decode cX7_readFact 0 = .ok (.iload_n 1, 1) := by decide +kernel
theorem dX7_readFact_1 : decode cX7_readFact 1 = .ok (.istore_n 2, 1) := by decide +kernel
theorem dX7_readFact_2 : decode cX7_readFact 2 = .ok (.iload_n 2, 1) := by decide +kernel
theorem dX7_readFact_3 : decode cX7_readFact 3 = .ok (.bipush 10, 2) := by decide +kernel
theorem dX7_readFact_5 : decode cX7_readFact 5 = .ok (.if_icmp .ge 29, 3) := by decide +kernel
theorem dX7_readFact_8 : decode cX7_readFact 8 = .ok (.aload_n 0, 1) := by decide +kernel
theorem dX7_readFact_9 : decode cX7_readFact 9 = .ok (.getfield 26, 3) := by decide +kernel
theorem dX7_readFact_12 : decode cX7_readFact 12 = .ok (.invokevirtual 41, 3) := by decide +kernel
theorem dX7_readFact_15 : decode cX7_readFact 15 = .ok (.sipush 269, 3) := by decide +kernel
theorem dX7_readFact_18 : decode cX7_readFact 18 = .ok (.if_icmp .ne 16, 3) := by decide +kernel
theorem dX7_readFact_21 : decode cX7_readFact 21 = .ok (.aload_n 0, 1) := by decide +kernel
theorem dX7_readFact_22 : decode cX7_readFact 22 = .ok (.getfield 26, 3) := by decide +kernel
theorem dX7_readFact_25 : decode cX7_readFact 25 = .ok (.invokevirtual 59, 3) := by decide +kernel
theorem dX7_readFact_28 : decode cX7_readFact 28 = .ok (.iinc 2 1, 3) := by decide +kernel
theorem dX7_readFact_31 : decode cX7_readFact 31 = .ok (.goto (-29), 3) := by decide +kernel
theorem dX7_readFact_34 : decode cX7_readFact 34 = .ok (.aload_n 0, 1) := by decide +kernel
theorem dX7_readFact_35 : decode cX7_readFact 35 = .ok (.getfield 26, 3) := by decide +kernel
theorem dX7_readFact_38 : decode cX7_readFact 38 = .ok (.invokevirtual 41, 3) := by decide +kernel
theorem dX7_readFact_41 : decode cX7_readFact 41 = .ok (.istore_n 3, 1) := by decide +kernel
theorem dX7_readFact_42 : decode cX7_readFact 42 = .ok (.iload_n 2, 1) := by decide +kernel
theorem dX7_readFact_43 : decode cX7_readFact 43 = .ok (.bipush 10, 2) := by decide +kernel
theorem dX7_readFact_45 : decode cX7_readFact 45 = .ok (.if_icmp .lt 25, 3) := by decide +kernel
theorem dX7_readFact_48 : decode cX7_readFact 48 = .ok (.iload_n 3, 1) := by decide +kernel
theorem dX7_readFact_49 : decode cX7_readFact 49 = .ok (.sipush 269, 3) := by decide +kernel
theorem dX7_readFact_52 : decode cX7_readFact 52 = .ok (.if_icmp .eq 9, 3) := by decide +kernel
theorem dX7_readFact_55 : decode cX7_readFact 55 = .ok (.iload_n 3, 1) := by decide +kernel
theorem dX7_readFact_56 : decode cX7_readFact 56 = .ok (.bipush 91, 2) := by decide +kernel
theorem dX7_readFact_58 : decode cX7_readFact 58 = .ok (.if_icmp .ne 12, 3) := by decide +kernel
theorem dX7_readFact_61 : decode cX7_readFact 61 = .ok (.aload_n 0, 1) := by decide +kernel
theorem dX7_readFact_62 : decode cX7_readFact 62 = .ok (.getfield 26, 3) := by decide +kernel
theorem dX7_readFact_65 : decode cX7_readFact 65 = .ok (.iconst 2, 1) := by decide +kernel
theorem dX7_readFact_66 : decode cX7_readFact 66 = .ok (.invokevirtual 56, 3) := by decide +kernel
theorem dX7_readFact_69 : decode cX7_readFact 69 = .ok (.return_, 1) := by decide +kernel
theorem dX7_readFact_70 : decode cX7_readFact 70 = .ok (.iload_n 3, 1) := by decide +kernel
theorem dX7_readFact_71 : decode cX7_readFact 71 = .ok (.bipush 91, 2) := by decide +kernel
theorem dX7_readFact_73 : decode cX7_readFact 73 = .ok (.if_icmp .ne 41, 3) := by decide +kernel
theorem dX7_readFact_76 : decode cX7_readFact 76 = .ok (.aload_n 0, 1) := by decide +kernel
theorem dX7_readFact_77 : decode cX7_readFact 77 = .ok (.getfield 26, 3) := by decide +kernel
theorem dX7_readFact_80 : decode cX7_readFact 80 = .ok (.invokevirtual 59, 3) := by decide +kernel
theorem dX7_readFact_83 : decode cX7_readFact 83 = .ok (.aload_n 0, 1) := by decide +kernel
theorem dX7_readFact_84 : decode cX7_readFact 84 = .ok (.iload_n 2, 1) := by decide +kernel
theorem dX7_readFact_85 : decode cX7_readFact 85 = .ok (.iconst 1, 1) := by decide +kernel
theorem dX7_readFact_86 : decode cX7_readFact 86 = .ok (.iadd, 1) := by decide +kernel
theorem dX7_readFact_87 : decode cX7_readFact 87 = .ok (.invokevirtual 65, 3) := by decide +kernel
theorem dX7_readFact_90 : decode cX7_readFact 90 = .ok (.aload_n 0, 1) := by decide +kernel
theorem dX7_readFact_91 : decode cX7_readFact 91 = .ok (.aload_n 0, 1) := by decide +kernel
theorem dX7_readFact_92 : decode cX7_readFact 92 = .ok (.getfield 26, 3) := by decide +kernel
theorem dX7_readFact_95 : decode cX7_readFact 95 = .ok (.invokevirtual 41, 3) := by decide +kernel
theorem dX7_readFact_98 : decode cX7_readFact 98 = .ok (.bipush 93, 2) := by decide +kernel
theorem dX7_readFact_100 : decode cX7_readFact 100 = .ok (.if_icmp .ne 7, 3) := by decide +kernel
theorem dX7_readFact_103 : decode cX7_readFact 103 = .ok (.iconst 1, 1) := by decide +kernel
theorem dX7_readFact_104 : decode cX7_readFact 104 = .ok (.goto 4, 3) := by decide +kernel
theorem dX7_readFact_107 : decode cX7_readFact 107 = .ok (.iconst 0, 1) := by decide +kernel
theorem dX7_readFact_108 : decode cX7_readFact 108 = .ok (.invokevirtual 74, 3) := by decide +kernel
theorem dX7_readFact_111 : decode cX7_readFact 111 = .ok (.goto 33, 3) := by decide +kernel
theorem dX7_readFact_114 : decode cX7_readFact 114 = .ok (.aload_n 0, 1) := by decide +kernel
theorem dX7_readFact_115 : decode cX7_readFact 115 = .ok (.invokevirtual 62, 3) := by decide +kernel
theorem dX7_readFact_118 : decode cX7_readFact 118 = .ok (.aload_n 0, 1) := by decide +kernel
theorem dX7_readFact_119 : decode cX7_readFact 119 = .ok (.getfield 26, 3) := by decide +kernel
theorem dX7_readFact_122 : decode cX7_readFact 122 = .ok (.invokevirtual 41, 3) := by decide +kernel
theorem dX7_readFact_125 : decode cX7_readFact 125 = .ok (.istore 4, 2) := by decide +kernel
theorem dX7_readFact_127 : decode cX7_readFact 127 = .ok (.aload_n 0, 1) := by decide +kernel
theorem dX7_readFact_128 : decode cX7_readFact 128 = .ok (.iload 4, 2) := by decide +kernel
theorem dX7_readFact_130 : decode cX7_readFact 130 = .ok (.invokevirtual 78, 3) := by decide +kernel
theorem dX7_readFact_133 : decode cX7_readFact 133 = .ok (.aload_n 0, 1) := by decide +kernel
theorem dX7_readFact_134 : decode cX7_readFact 134 = .ok (.invokevirtual 62, 3) := by decide +kernel
theorem dX7_readFact_137 : decode cX7_readFact 137 = .ok (.aload_n 0, 1) := by decide +kernel
theorem dX7_readFact_138 : decode cX7_readFact 138 = .ok (.iload 4, 2) := by decide +kernel
theorem dX7_readFact_140 : decode cX7_readFact 140 = .ok (.ineg, 1) := by decide +kernel
theorem dX7_readFact_141 : decode cX7_readFact 141 = .ok (.invokevirtual 71, 3) := by decide +kernel
theorem dX7_readFact_144 : decode cX7_readFact 144 = .ok (.iload_n 1, 1) := by decide +kernel
theorem dX7_readFact_145 : decode cX7_readFact 145 = .ok (.istore 4, 2) := by decide +kernel
theorem dX7_readFact_147 : decode cX7_readFact 147 = .ok (.iload 4, 2) := by decide +kernel
theorem dX7_readFact_149 : decode cX7_readFact 149 = .ok (.iload_n 2, 1) := by decide +kernel
theorem dX7_readFact_150 : decode cX7_readFact 150 = .ok (.if_icmp .ge 16, 3) := by decide +kernel
theorem dX7_readFact_153 : decode cX7_readFact 153 = .ok (.aload_n 0, 1) := by decide +kernel
theorem dX7_readFact_154 : decode cX7_readFact 154 = .ok (.sipush (-269), 3) := by decide +kernel
theorem dX7_readFact_157 : decode cX7_readFact 157 = .ok (.invokevirtual 71, 3) := by decide +kernel
theorem dX7_readFact_160 : decode cX7_readFact 160 = .ok (.iinc 4 1, 3) := by decide +kernel
theorem dX7_readFact_163 : decode cX7_readFact 163 = .ok (.goto (-16), 3) := by decide +kernel
theorem dX7_readFact_166 : decode cX7_readFact 166 = .ok (.return_, 1) := by decide +kernel
set_option maxRecDepth 20000 in
theorem ggX7_takeSign_X10_fail : GoodIn wsX7_takeSign wsX10_fail := goodIn_r _ [6, 7, 8, 9, 10, 22, 23, 24, 25, 26, 27] rfl (by decide +kernel)
set_option maxRecDepth 20000 in
theorem gX7_takeSign_X10_fail : GoodIn wsX7_takeSign (wsV RX7 56 RX10 yX10_fail wsX10_fail) := goodIn_app (goodIn_of _ (by decide +kernel)) ggX7_takeSign_X10_fail
set_option maxRecDepth 20000 in
theorem ggX7_takeSign_X10_next : GoodIn wsX7_takeSign wsX10_next := goodIn_r _ [14, 8, 9, 22, 23, 24, 25, 26, 27] rfl (by decide +kernel)
set_option maxRecDepth 20000 in
theorem gX7_takeSign_X10_next : GoodIn wsX7_takeSign (wsV RX7 59 RX10 yX10_next wsX10_next) := goodIn_app (goodIn_of _ (by decide +kernel)) ggX7_takeSign_X10_next
theorem dX7_takeSign_0 : decode cX7_takeSign 0 = .ok (.iload_n 1, 1) := by decide +kernel
theorem dX7_takeSign_1 : decode cX7_takeSign 1 = .ok (.ifCond .ne 11, 3) := by decide +kernel
theorem dX7_takeSign_4 : decode cX7_takeSign 4 = .ok (.aload_n 0, 1) := by decide +kernel
theorem dX7_takeSign_5 : decode cX7_takeSign 5 = .ok (.getfield 26, 3) := by decide +kernel
theorem dX7_takeSign_8 : decode cX7_takeSign 8 = .ok (.iconst 0, 1) := by decide +kernel
theorem dX7_takeSign_9 : decode cX7_takeSign 9 = .ok (.invokevirtual 56, 3) := by decide +kernel
theorem dX7_takeSign_12 : decode cX7_takeSign 12 = .ok (.aload_n 0, 1) := by decide +kernel
theorem dX7_takeSign_13 : decode cX7_takeSign 13 = .ok (.getfield 26, 3) := by decide +kernel
theorem dX7_takeSign_16 : decode cX7_takeSign 16 = .ok (.invokevirtual 59, 3) := by decide +kernel
theorem dX7_takeSign_19 : decode cX7_takeSign 19 = .ok (.return_, 1) := by decide +kernel
set_option maxRecDepth 20000 in
theorem ggX7_takeFactSign_X10_fail : GoodIn wsX7_takeFactSign wsX10_fail := goodIn_r _ [7, 8, 9, 10, 11, 28, 29, 30, 31, 32, 33] rfl (by decide +kernel)
set_option maxRecDepth 20000 in
theorem gX7_takeFactSign_X10_fail : GoodIn wsX7_takeFactSign (wsV RX7 56 RX10 yX10_fail wsX10_fail) := goodIn_app (goodIn_of _ (by decide +kernel)) ggX7_takeFactSign_X10_fail
set_option maxRecDepth 20000 in
theorem ggX7_takeFactSign_X7_takeSign : GoodIn wsX7_takeFactSign wsX7_takeSign := goodIn_r _ [16, 2, 3, 4, 5, 6, 7, 8, 9, 10, 11, 17, 18, 19, 20, 21, 22, 23, 24, 25, 26, 27, 28, 29, 30, 31, 32, 33] rfl (by decide +kernel)
set_option maxRecDepth 20000 in
theorem gX7_takeFactSign_X7_takeSign : GoodIn wsX7_takeFactSign (wsV RX7 74 RX7 yX7_takeSign wsX7_takeSign) := goodIn_app (goodIn_of _ (by decide +kernel)) ggX7_takeFactSign_X7_takeSign
theorem dX7_takeFactSign_0 : decode cX7_takeFactSign 0 = .ok (.iload_n 1, 1) := by decide +kernel
theorem dX7_takeFactSign_1 : decode cX7_takeFactSign 1 = .ok (.bipush 60, 2) := by decide +kernel
theorem dX7_takeFactSign_3 : decode cX7_takeFactSign 3 = .ok (.if_icmp .eq 25, 3) := by decide +kernel
theorem dX7_takeFactSign_6 : decode cX7_takeFactSign 6 = .ok (.iload_n 1, 1) := by decide +kernel
theorem dX7_takeFactSign_7 : decode cX7_takeFactSign 7 = .ok (.bipush 61, 2) := by decide +kernel
theorem dX7_takeFactSign_9 : decode cX7_takeFactSign 9 = .ok (.if_icmp .eq 19, 3) := by decide +kernel
theorem dX7_takeFactSign_12 : decode cX7_takeFactSign 12 = .ok (.iload_n 1, 1) := by decide +kernel
theorem dX7_takeFactSign_13 : decode cX7_takeFactSign 13 = .ok (.bipush 62, 2) := by decide +kernel
theorem dX7_takeFactSign_15 : decode cX7_takeFactSign 15 = .ok (.if_icmp .eq 13, 3) := by decide +kernel
theorem dX7_takeFactSign_18 : decode cX7_takeFactSign 18 = .ok (.iload_n 1, 1) := by decide +kernel
theorem dX7_takeFactSign_19 : decode cX7_takeFactSign 19 = .ok (.iconst 3, 1) := by decide +kernel
theorem dX7_takeFactSign_20 : decode cX7_takeFactSign 20 = .ok (.if_icmp .eq 8, 3) := by decide +kernel
theorem dX7_takeFactSign_23 : decode cX7_takeFactSign 23 = .ok (.iload_n 1, 1) := by decide +kernel
theorem dX7_takeFactSign_24 : decode cX7_takeFactSign 24 = .ok (.iconst 4, 1) := by decide +kernel
theorem dX7_takeFactSign_25 : decode cX7_takeFactSign 25 = .ok (.if_icmp .ne 7, 3) := by decide +kernel
theorem dX7_takeFactSign_28 : decode cX7_takeFactSign 28 = .ok (.iconst 1, 1) := by decide +kernel
theorem dX7_takeFactSign_29 : decode cX7_takeFactSign 29 = .ok (.goto 4, 3) := by decide +kernel
theorem dX7_takeFactSign_32 : decode cX7_takeFactSign 32 = .ok (.iconst 0, 1) := by decide +kernel
theorem dX7_takeFactSign_33 : decode cX7_takeFactSign 33 = .ok (.istore_n 2, 1) := by decide +kernel
theorem dX7_takeFactSign_34 : decode cX7_takeFactSign 34 = .ok (.iload_n 2, 1) := by decide +kernel
theorem dX7_takeFactSign_35 : decode cX7_takeFactSign 35 = .ok (.ifCond .eq 20, 3) := by decide +kernel
theorem dX7_takeFactSign_38 : decode cX7_takeFactSign 38 = .ok (.aload_n 0, 1) := by decide +kernel
theorem dX7_takeFactSign_39 : decode cX7_takeFactSign 39 = .ok (.getfield 34, 3) := by decide +kernel
theorem dX7_takeFactSign_42 : decode cX7_takeFactSign 42 = .ok (.bipush 60, 2) := by decide +kernel
theorem dX7_takeFactSign_44 : decode cX7_takeFactSign 44 = .ok (.if_icmp .lt 11, 3) := by decide +kernel
theorem dX7_takeFactSign_47 : decode cX7_takeFactSign 47 = .ok (.aload_n 0, 1) := by decide +kernel
theorem dX7_takeFactSign_48 : decode cX7_takeFactSign 48 = .ok (.getfield 26, 3) := by decide +kernel
theorem dX7_takeFactSign_51 : decode cX7_takeFactSign 51 = .ok (.iconst 3, 1) := by decide +kernel
theorem dX7_takeFactSign_52 : decode cX7_takeFactSign 52 = .ok (.invokevirtual 56, 3) := by decide +kernel
theorem dX7_takeFactSign_55 : decode cX7_takeFactSign 55 = .ok (.aload_n 0, 1) := by decide +kernel
theorem dX7_takeFactSign_56 : decode cX7_takeFactSign 56 = .ok (.dup, 1) := by decide +kernel
theorem dX7_takeFactSign_57 : decode cX7_takeFactSign 57 = .ok (.getfield 34, 3) := by decide +kernel
theorem dX7_takeFactSign_60 : decode cX7_takeFactSign 60 = .ok (.iconst 1, 1) := by decide +kernel
theorem dX7_takeFactSign_61 : decode cX7_takeFactSign 61 = .ok (.iadd, 1) := by decide +kernel
theorem dX7_takeFactSign_62 : decode cX7_takeFactSign 62 = .ok (.putfield 34, 3) := by decide +kernel
theorem dX7_takeFactSign_65 : decode cX7_takeFactSign 65 = .ok (.aload_n 0, 1) := by decide +kernel
theorem dX7_takeFactSign_66 : decode cX7_takeFactSign 66 = .ok (.iload_n 2, 1) := by decide +kernel
theorem dX7_takeFactSign_67 : decode cX7_takeFactSign 67 = .ok (.invokevirtual 74, 3) := by decide +kernel
theorem dX7_takeFactSign_70 : decode cX7_takeFactSign 70 = .ok (.return_, 1) := by decide +kernel
set_option maxRecDepth 20000 in
theorem ggX7_readSum_X7_readValue : GoodIn wsX7_readSum wsX7_readValue := goodIn_r _ [6, 1, 7, 8, 9, 10, 11, 12, 13, 14, 15, 16, 17, 18, 19, 20, 21, 22, 23, 24, 25, 26, 27, 28, 29, 5, 30, 31, 32, 33, 34, 35, 36, 37, 38, 39, 40, 41, 42, 43, 44, 45, 46, 47, 48, 49] rfl (by decide +kernel)
set_option maxRecDepth 20000 in
theorem gX7_readSum_X7_readValue : GoodIn wsX7_readSum (wsV RX7 81 RX7 yX7_readValue wsX7_readValue) := goodIn_app (goodIn_of _ (by decide +kernel)) ggX7_readSum_X7_readValue
set_option maxRecDepth 20000 in
theorem ggX7_readSum_X10_kind : GoodIn wsX7_readSum wsX10_kind := goodIn_r _ [12, 13, 14, 15, 16, 44, 45, 46, 47, 48, 49] rfl (by decide +kernel)
set_option maxRecDepth 20000 in
theorem gX7_readSum_X10_kind : GoodIn wsX7_readSum (wsV RX7 41 RX10 yX10_kind wsX10_kind) := goodIn_app (goodIn_of _ (by decide +kernel)) ggX7_readSum_X10_kind
set_option maxRecDepth 20000 in
theorem ggX7_readSum_X10_next : GoodIn wsX7_readSum wsX10_next := goodIn_r _ [36, 14, 15, 44, 45, 46, 47, 48, 49] rfl (by decide +kernel)
set_option maxRecDepth 20000 in
theorem gX7_readSum_X10_next : GoodIn wsX7_readSum (wsV RX7 59 RX10 yX10_next wsX10_next) := goodIn_app (goodIn_of _ (by decide +kernel)) ggX7_readSum_X10_next
set_option maxRecDepth 20000 in
theorem ggX7_readSum_X7_put : GoodIn wsX7_readSum wsX7_put := goodIn_r _ [30, 31, 32, 37, 38, 39, 40, 41, 42, 43] rfl (by decide +kernel)
set_option maxRecDepth 20000 in
theorem gX7_readSum_X7_put : GoodIn wsX7_readSum (wsV RX7 71 RX7 yX7_put wsX7_put) := goodIn_app (goodIn_of _ (by decide +kernel)) ggX7_readSum_X7_put
theorem dX7_readSum_0 : decode cX7_readSum 0 = .ok (.iconst 0, 1) := by decide +kernel
theorem dX7_readSum_1 : decode cX7_readSum 1 = .ok (.istore_n 1, 1) := by decide +kernel
theorem dX7_readSum_2 : decode cX7_readSum 2 = .ok (.iconst 0, 1) := by decide +kernel
theorem dX7_readSum_3 : decode cX7_readSum 3 = .ok (.istore_n 2, 1) := by decide +kernel
theorem dX7_readSum_4 : decode cX7_readSum 4 = .ok (.iload_n 2, 1) := by decide +kernel
theorem dX7_readSum_5 : decode cX7_readSum 5 = .ok (.sipush 400, 3) := by decide +kernel
theorem dX7_readSum_8 : decode cX7_readSum 8 = .ok (.if_icmp .ge 117, 3) := by decide +kernel
theorem dX7_readSum_11 : decode cX7_readSum 11 = .ok (.aload_n 0, 1) := by decide +kernel
theorem dX7_readSum_12 : decode cX7_readSum 12 = .ok (.invokevirtual 81, 3) := by decide +kernel
theorem dX7_readSum_15 : decode cX7_readSum 15 = .ok (.iconst 0, 1) := by decide +kernel
theorem dX7_readSum_16 : decode cX7_readSum 16 = .ok (.istore_n 3, 1) := by decide +kernel
theorem dX7_readSum_17 : decode cX7_readSum 17 = .ok (.iload_n 3, 1) := by decide +kernel
theorem dX7_readSum_18 : decode cX7_readSum 18 = .ok (.sipush 400, 3) := by decide +kernel
theorem dX7_readSum_21 : decode cX7_readSum 21 = .ok (.if_icmp .ge 60, 3) := by decide +kernel
theorem dX7_readSum_24 : decode cX7_readSum 24 = .ok (.aload_n 0, 1) := by decide +kernel
theorem dX7_readSum_25 : decode cX7_readSum 25 = .ok (.getfield 26, 3) := by decide +kernel
theorem dX7_readSum_28 : decode cX7_readSum 28 = .ok (.invokevirtual 41, 3) := by decide +kernel
theorem dX7_readSum_31 : decode cX7_readSum 31 = .ok (.bipush 42, 2) := by decide +kernel
theorem dX7_readSum_33 : decode cX7_readSum 33 = .ok (.if_icmp .eq 15, 3) := by decide +kernel
theorem dX7_readSum_36 : decode cX7_readSum 36 = .ok (.aload_n 0, 1) := by decide +kernel
theorem dX7_readSum_37 : decode cX7_readSum 37 = .ok (.getfield 26, 3) := by decide +kernel
theorem dX7_readSum_40 : decode cX7_readSum 40 = .ok (.invokevirtual 41, 3) := by decide +kernel
theorem dX7_readSum_43 : decode cX7_readSum 43 = .ok (.bipush 47, 2) := by decide +kernel
theorem dX7_readSum_45 : decode cX7_readSum 45 = .ok (.if_icmp .ne 36, 3) := by decide +kernel
theorem dX7_readSum_48 : decode cX7_readSum 48 = .ok (.aload_n 0, 1) := by decide +kernel
theorem dX7_readSum_49 : decode cX7_readSum 49 = .ok (.getfield 26, 3) := by decide +kernel
theorem dX7_readSum_52 : decode cX7_readSum 52 = .ok (.invokevirtual 41, 3) := by decide +kernel
theorem dX7_readSum_55 : decode cX7_readSum 55 = .ok (.istore 4, 2) := by decide +kernel
theorem dX7_readSum_57 : decode cX7_readSum 57 = .ok (.aload_n 0, 1) := by decide +kernel
theorem dX7_readSum_58 : decode cX7_readSum 58 = .ok (.getfield 26, 3) := by decide +kernel
theorem dX7_readSum_61 : decode cX7_readSum 61 = .ok (.invokevirtual 59, 3) := by decide +kernel
theorem dX7_readSum_64 : decode cX7_readSum 64 = .ok (.aload_n 0, 1) := by decide +kernel
theorem dX7_readSum_65 : decode cX7_readSum 65 = .ok (.invokevirtual 81, 3) := by decide +kernel
theorem dX7_readSum_68 : decode cX7_readSum 68 = .ok (.aload_n 0, 1) := by decide +kernel
theorem dX7_readSum_69 : decode cX7_readSum 69 = .ok (.iload 4, 2) := by decide +kernel
theorem dX7_readSum_71 : decode cX7_readSum 71 = .ok (.ineg, 1) := by decide +kernel
theorem dX7_readSum_72 : decode cX7_readSum 72 = .ok (.invokevirtual 71, 3) := by decide +kernel
theorem dX7_readSum_75 : decode cX7_readSum 75 = .ok (.iinc 3 1, 3) := by decide +kernel
theorem dX7_readSum_78 : decode cX7_readSum 78 = .ok (.goto (-61), 3) := by decide +kernel
theorem dX7_readSum_81 : decode cX7_readSum 81 = .ok (.iload_n 2, 1) := by decide +kernel
theorem dX7_readSum_82 : decode cX7_readSum 82 = .ok (.ifCond .le 9, 3) := by decide +kernel
theorem dX7_readSum_85 : decode cX7_readSum 85 = .ok (.aload_n 0, 1) := by decide +kernel
theorem dX7_readSum_86 : decode cX7_readSum 86 = .ok (.iload_n 1, 1) := by decide +kernel
theorem dX7_readSum_87 : decode cX7_readSum 87 = .ok (.ineg, 1) := by decide +kernel
theorem dX7_readSum_88 : decode cX7_readSum 88 = .ok (.invokevirtual 71, 3) := by decide +kernel
theorem dX7_readSum_91 : decode cX7_readSum 91 = .ok (.aload_n 0, 1) := by decide +kernel
theorem dX7_readSum_92 : decode cX7_readSum 92 = .ok (.getfield 26, 3) := by decide +kernel
theorem dX7_readSum_95 : decode cX7_readSum 95 = .ok (.invokevirtual 41, 3) := by decide +kernel
theorem dX7_readSum_98 : decode cX7_readSum 98 = .ok (.istore_n 1, 1) := by decide +kernel
theorem dX7_readSum_99 : decode cX7_readSum 99 = .ok (.iload_n 1, 1) := by decide +kernel
theorem dX7_readSum_100 : decode cX7_readSum 100 = .ok (.bipush 43, 2) := by decide +kernel
theorem dX7_readSum_102 : decode cX7_readSum 102 = .ok (.if_icmp .eq 10, 3) := by decide +kernel
theorem dX7_readSum_105 : decode cX7_readSum 105 = .ok (.iload_n 1, 1) := by decide +kernel
theorem dX7_readSum_106 : decode cX7_readSum 106 = .ok (.bipush 45, 2) := by decide +kernel
theorem dX7_readSum_108 : decode cX7_readSum 108 = .ok (.if_icmp .eq 4, 3) := by decide +kernel
theorem dX7_readSum_111 : decode cX7_readSum 111 = .ok (.return_, 1) := by decide +kernel
theorem dX7_readSum_112 : decode cX7_readSum 112 = .ok (.aload_n 0, 1) := by decide +kernel
theorem dX7_readSum_113 : decode cX7_readSum 113 = .ok (.getfield 26, 3) := by decide +kernel
theorem dX7_readSum_116 : decode cX7_readSum 116 = .ok (.invokevirtual 59, 3) := by decide +kernel
theorem dX7_readSum_119 : decode cX7_readSum 119 = .ok (.iinc 2 1, 3) := by decide +kernel
theorem dX7_readSum_122 : decode cX7_readSum 122 = .ok (.goto (-118), 3) := by decide +kernel
theorem dX7_readSum_125 : decode cX7_readSum 125 = .ok (.return_, 1) := by decide +kernel
set_option maxRecDepth 20000 in
theorem ggX7_readValue_X10_kind : GoodIn wsX7_readValue wsX10_kind := goodIn_r _ [7, 8, 9, 10, 11, 40, 41, 42, 43, 44, 45] rfl (by decide +kernel)
set_option maxRecDepth 20000 in
theorem gX7_readValue_X10_kind : GoodIn wsX7_readValue (wsV RX7 41 RX10 yX10_kind wsX10_kind) := goodIn_app (goodIn_of _ (by decide +kernel)) ggX7_readValue_X10_kind
set_option maxRecDepth 20000 in
theorem ggX7_readValue_X10_fail : GoodIn wsX7_readValue wsX10_fail := goodIn_r _ [15, 8, 9, 10, 16, 40, 41, 42, 43, 44, 45] rfl (by decide +kernel)
set_option maxRecDepth 20000 in
theorem gX7_readValue_X10_fail : GoodIn wsX7_readValue (wsV RX7 56 RX10 yX10_fail wsX10_fail) := goodIn_app (goodIn_of _ (by decide +kernel)) ggX7_readValue_X10_fail
set_option maxRecDepth 20000 in
theorem ggX7_readValue_X10_value : GoodIn wsX7_readValue wsX10_value := goodIn_r _ [20, 9, 10, 21, 40, 41, 42, 43, 44, 45] rfl (by decide +kernel)
set_option maxRecDepth 20000 in
theorem gX7_readValue_X10_value : GoodIn wsX7_readValue (wsV RX7 84 RX10 yX10_value wsX10_value) := goodIn_app (goodIn_of _ (by decide +kernel)) ggX7_readValue_X10_value
set_option maxRecDepth 20000 in
theorem ggX7_readValue_X7_put : GoodIn wsX7_readValue wsX7_put := goodIn_r _ [26, 27, 28, 33, 34, 35, 36, 37, 38, 39] rfl (by decide +kernel)
set_option maxRecDepth 20000 in
theorem gX7_readValue_X7_put : GoodIn wsX7_readValue (wsV RX7 71 RX7 yX7_put wsX7_put) := goodIn_app (goodIn_of _ (by decide +kernel)) ggX7_readValue_X7_put
set_option maxRecDepth 20000 in
theorem ggX7_readValue_X10_next : GoodIn wsX7_readValue wsX10_next := goodIn_r _ [32, 9, 10, 40, 41, 42, 43, 44, 45] rfl (by decide +kernel)
set_option maxRecDepth 20000 in
theorem gX7_readValue_X10_next : GoodIn wsX7_readValue (wsV RX7 59 RX10 yX10_next wsX10_next) := goodIn_app (goodIn_of _ (by decide +kernel)) ggX7_readValue_X10_next
theorem dX7_readValue_0 : decode cX7_readValue 0 = .ok (.aload_n 0, 1) := by decide +kernel
theorem dX7_readValue_1 : decode cX7_readValue 1 = .ok (.getfield 26, 3) := by decide +kernel
theorem dX7_readValue_4 : decode cX7_readValue 4 = .ok (.invokevirtual 41, 3) := by decide +kernel
theorem dX7_readValue_7 : decode cX7_readValue 7 = .ok (.istore_n 1, 1) := by decide +kernel
theorem dX7_readValue_8 : decode cX7_readValue 8 = .ok (.iload_n 1, 1) := by decide +kernel
theorem dX7_readValue_9 : decode cX7_readValue 9 = .ok (.iconst 2, 1) := by decide +kernel
theorem dX7_readValue_10 : decode cX7_readValue 10 = .ok (.if_icmp .ne 7, 3) := by decide +kernel
theorem dX7_readValue_13 : decode cX7_readValue 13 = .ok (.iconst 1, 1) := by decide +kernel
theorem dX7_readValue_14 : decode cX7_readValue 14 = .ok (.goto 4, 3) := by decide +kernel
theorem dX7_readValue_17 : decode cX7_readValue 17 = .ok (.iconst 0, 1) := by decide +kernel
theorem dX7_readValue_18 : decode cX7_readValue 18 = .ok (.istore_n 2, 1) := by decide +kernel
theorem dX7_readValue_19 : decode cX7_readValue 19 = .ok (.iload_n 2, 1) := by decide +kernel
theorem dX7_readValue_20 : decode cX7_readValue 20 = .ok (.ifCond .ne 26, 3) := by decide +kernel
theorem dX7_readValue_23 : decode cX7_readValue 23 = .ok (.iload_n 1, 1) := by decide +kernel
theorem dX7_readValue_24 : decode cX7_readValue 24 = .ok (.sipush 270, 3) := by decide +kernel
theorem dX7_readValue_27 : decode cX7_readValue 27 = .ok (.if_icmp .lt 10, 3) := by decide +kernel
theorem dX7_readValue_30 : decode cX7_readValue 30 = .ok (.iload_n 1, 1) := by decide +kernel
theorem dX7_readValue_31 : decode cX7_readValue 31 = .ok (.sipush 278, 3) := by decide +kernel
theorem dX7_readValue_34 : decode cX7_readValue 34 = .ok (.if_icmp .le 12, 3) := by decide +kernel
theorem dX7_readValue_37 : decode cX7_readValue 37 = .ok (.aload_n 0, 1) := by decide +kernel
theorem dX7_readValue_38 : decode cX7_readValue 38 = .ok (.getfield 26, 3) := by decide +kernel
theorem dX7_readValue_41 : decode cX7_readValue 41 = .ok (.iconst 0, 1) := by decide +kernel
theorem dX7_readValue_42 : decode cX7_readValue 42 = .ok (.invokevirtual 56, 3) := by decide +kernel
theorem dX7_readValue_45 : decode cX7_readValue 45 = .ok (.return_, 1) := by decide +kernel
theorem dX7_readValue_46 : decode cX7_readValue 46 = .ok (.iload_n 2, 1) := by decide +kernel
theorem dX7_readValue_47 : decode cX7_readValue 47 = .ok (.ifCond .eq 21, 3) := by decide +kernel
theorem dX7_readValue_50 : decode cX7_readValue 50 = .ok (.aload_n 0, 1) := by decide +kernel
theorem dX7_readValue_51 : decode cX7_readValue 51 = .ok (.getfield 26, 3) := by decide +kernel
theorem dX7_readValue_54 : decode cX7_readValue 54 = .ok (.invokevirtual 84, 3) := by decide +kernel
theorem dX7_readValue_57 : decode cX7_readValue 57 = .ok (.ifCond .ge 11, 3) := by decide +kernel
theorem dX7_readValue_60 : decode cX7_readValue 60 = .ok (.aload_n 0, 1) := by decide +kernel
theorem dX7_readValue_61 : decode cX7_readValue 61 = .ok (.getfield 26, 3) := by decide +kernel
theorem dX7_readValue_64 : decode cX7_readValue 64 = .ok (.iconst 1, 1) := by decide +kernel
theorem dX7_readValue_65 : decode cX7_readValue 65 = .ok (.invokevirtual 56, 3) := by decide +kernel
theorem dX7_readValue_68 : decode cX7_readValue 68 = .ok (.aload_n 0, 1) := by decide +kernel
theorem dX7_readValue_69 : decode cX7_readValue 69 = .ok (.getfield 34, 3) := by decide +kernel
theorem dX7_readValue_72 : decode cX7_readValue 72 = .ok (.bipush 60, 2) := by decide +kernel
theorem dX7_readValue_74 : decode cX7_readValue 74 = .ok (.if_icmp .lt 11, 3) := by decide +kernel
theorem dX7_readValue_77 : decode cX7_readValue 77 = .ok (.aload_n 0, 1) := by decide +kernel
theorem dX7_readValue_78 : decode cX7_readValue 78 = .ok (.getfield 26, 3) := by decide +kernel
theorem dX7_readValue_81 : decode cX7_readValue 81 = .ok (.iconst 3, 1) := by decide +kernel
theorem dX7_readValue_82 : decode cX7_readValue 82 = .ok (.invokevirtual 56, 3) := by decide +kernel
theorem dX7_readValue_85 : decode cX7_readValue 85 = .ok (.aload_n 0, 1) := by decide +kernel
theorem dX7_readValue_86 : decode cX7_readValue 86 = .ok (.dup, 1) := by decide +kernel
theorem dX7_readValue_87 : decode cX7_readValue 87 = .ok (.getfield 34, 3) := by decide +kernel
theorem dX7_readValue_90 : decode cX7_readValue 90 = .ok (.iconst 1, 1) := by decide +kernel
theorem dX7_readValue_91 : decode cX7_readValue 91 = .ok (.iadd, 1) := by decide +kernel
theorem dX7_readValue_92 : decode cX7_readValue 92 = .ok (.putfield 34, 3) := by decide +kernel
theorem dX7_readValue_95 : decode cX7_readValue 95 = .ok (.aload_n 0, 1) := by decide +kernel
theorem dX7_readValue_96 : decode cX7_readValue 96 = .ok (.iload_n 2, 1) := by decide +kernel
theorem dX7_readValue_97 : decode cX7_readValue 97 = .ok (.ifCond .eq 13, 3) := by decide +kernel
theorem dX7_readValue_100 : decode cX7_readValue 100 = .ok (.aload_n 0, 1) := by decide +kernel
theorem dX7_readValue_101 : decode cX7_readValue 101 = .ok (.getfield 26, 3) := by decide +kernel
theorem dX7_readValue_104 : decode cX7_readValue 104 = .ok (.invokevirtual 84, 3) := by decide +kernel
theorem dX7_readValue_107 : decode cX7_readValue 107 = .ok (.goto 5, 3) := by decide +kernel
theorem dX7_readValue_110 : decode cX7_readValue 110 = .ok (.iload_n 1, 1) := by decide +kernel
theorem dX7_readValue_111 : decode cX7_readValue 111 = .ok (.ineg, 1) := by decide +kernel
theorem dX7_readValue_112 : decode cX7_readValue 112 = .ok (.invokevirtual 71, 3) := by decide +kernel
theorem dX7_readValue_115 : decode cX7_readValue 115 = .ok (.aload_n 0, 1) := by decide +kernel
theorem dX7_readValue_116 : decode cX7_readValue 116 = .ok (.getfield 26, 3) := by decide +kernel
theorem dX7_readValue_119 : decode cX7_readValue 119 = .ok (.invokevirtual 59, 3) := by decide +kernel
theorem dX7_readValue_122 : decode cX7_readValue 122 = .ok (.return_, 1) := by decide +kernel
theorem dX7_put_0 : decode cX7_put 0 = .ok (.aload_n 0, 1) := by decide +kernel
theorem dX7_put_1 : decode cX7_put 1 = .ok (.getfield 30, 3) := by decide +kernel
theorem dX7_put_4 : decode cX7_put 4 = .ok (.aload_n 0, 1) := by decide +kernel
theorem dX7_put_5 : decode cX7_put 5 = .ok (.getfield 23, 3) := by decide +kernel
theorem dX7_put_8 : decode cX7_put 8 = .ok (.arraylength, 1) := by decide +kernel
theorem dX7_put_9 : decode cX7_put 9 = .ok (.if_icmp .ge 23, 3) := by decide +kernel
theorem dX7_put_12 : decode cX7_put 12 = .ok (.aload_n 0, 1) := by decide +kernel
theorem dX7_put_13 : decode cX7_put 13 = .ok (.getfield 23, 3) := by decide +kernel
theorem dX7_put_16 : decode cX7_put 16 = .ok (.aload_n 0, 1) := by decide +kernel
theorem dX7_put_17 : decode cX7_put 17 = .ok (.getfield 30, 3) := by decide +kernel
theorem dX7_put_20 : decode cX7_put 20 = .ok (.iload_n 1, 1) := by decide +kernel
theorem dX7_put_21 : decode cX7_put 21 = .ok (.iastore, 1) := by decide +kernel
theorem dX7_put_22 : decode cX7_put 22 = .ok (.aload_n 0, 1) := by decide +kernel
theorem dX7_put_23 : decode cX7_put 23 = .ok (.dup, 1) := by decide +kernel
theorem dX7_put_24 : decode cX7_put 24 = .ok (.getfield 30, 3) := by decide +kernel
theorem dX7_put_27 : decode cX7_put 27 = .ok (.iconst 1, 1) := by decide +kernel
theorem dX7_put_28 : decode cX7_put 28 = .ok (.iadd, 1) := by decide +kernel
theorem dX7_put_29 : decode cX7_put 29 = .ok (.putfield 30, 3) := by decide +kernel
theorem dX7_put_32 : decode cX7_put 32 = .ok (.return_, 1) := by decide +kernel
set_option maxRecDepth 20000 in
theorem ggX8_init_X9_init : GoodIn wsX8_init wsX9_init := goodIn_r _ [14, 15, 2, 3, 16, 17, 18, 19, 8, 20, 21, 22, 23, 24, 25, 26, 27, 28, 29, 30, 31, 46, 47, 48, 49, 50, 51, 52, 53, 54, 36, 37, 38, 39, 40] rfl (by decide +kernel)
set_option maxRecDepth 20000 in
theorem gX8_init_X9_init : GoodIn wsX8_init (wsX9_init) := ggX8_init_X9_init
set_option maxRecDepth 20000 in
theorem ggX8_init_J7_fill_53178 : GoodIn wsX8_init wsJ7_fill_53178 := goodIn_r _ [35] rfl (by decide +kernel)
set_option maxRecDepth 20000 in
theorem gX8_init_J7_fill_53178 : GoodIn wsX8_init (va_wsS RX8 24 yJ7_fill_53178 wsJ7_fill_53178) := goodIn_app (goodIn_of _ (by decide +kernel)) ggX8_init_J7_fill_53178
theorem dX8_init_0 : decode cX8_init 0 = .ok (.aload_n 0, 1) := by decide +kernel
theorem dX8_init_1 : decode cX8_init 1 = .ok (.invokespecial 1, 3) := by decide +kernel
theorem dX8_init_4 : decode cX8_init 4 = .ok (.aload_n 0, 1) := by decide +kernel
theorem dX8_init_5 : decode cX8_init 5 = .ok (.new 7, 3) := by decide +kernel
theorem dX8_init_8 : decode cX8_init 8 = .ok (.dup, 1) := by decide +kernel
theorem dX8_init_9 : decode cX8_init 9 = .ok (.invokespecial 9, 3) := by decide +kernel
theorem dX8_init_12 : decode cX8_init 12 = .ok (.putfield 10, 3) := by decide +kernel
theorem dX8_init_15 : decode cX8_init 15 = .ok (.aload_n 0, 1) := by decide +kernel
theorem dX8_init_16 : decode cX8_init 16 = .ok (.bipush 16, 2) := by decide +kernel
theorem dX8_init_18 : decode cX8_init 18 = .ok (.newarray .int, 2) := by decide +kernel
theorem dX8_init_20 : decode cX8_init 20 = .ok (.putfield 16, 3) := by decide +kernel
theorem dX8_init_23 : decode cX8_init 23 = .ok (.aload_n 0, 1) := by decide +kernel
theorem dX8_init_24 : decode cX8_init 24 = .ok (.bipush 80, 2) := by decide +kernel
theorem dX8_init_26 : decode cX8_init 26 = .ok (.newarray .int, 2) := by decide +kernel
theorem dX8_init_28 : decode cX8_init 28 = .ok (.putfield 20, 3) := by decide +kernel
theorem dX8_init_31 : decode cX8_init 31 = .ok (.aload_n 0, 1) := by decide +kernel
theorem dX8_init_32 : decode cX8_init 32 = .ok (.getfield 20, 3) := by decide +kernel
theorem dX8_init_35 : decode cX8_init 35 = .ok (.ldc 23, 2) := by decide +kernel
theorem dX8_init_37 : decode cX8_init 37 = .ok (.invokestatic 24, 3) := by decide +kernel
theorem dX8_init_40 : decode cX8_init 40 = .ok (.return_, 1) := by decide +kernel
set_option maxRecDepth 20000 in
theorem ggX8_become_X9_become : GoodIn wsX8_become wsX9_become := goodIn_r _ [14, 15, 16, 17, 18, 19, 6, 7, 8, 20, 26, 27, 28, 29, 30] rfl (by decide +kernel)
set_option maxRecDepth 20000 in
theorem gX8_become_X9_become : GoodIn wsX8_become (wsV RX8 30 RX9 yX9_become wsX9_become) := goodIn_app (goodIn_of _ (by decide +kernel)) ggX8_become_X9_become
theorem dX8_become_0 : decode cX8_become 0 = .ok (.aload_n 0, 1) := by decide +kernel
theorem dX8_become_1 : decode cX8_become 1 = .ok (.getfield 10, 3) := by decide +kernel
theorem dX8_become_4 : decode cX8_become 4 = .ok (.aload_n 1, 1) := by decide +kernel
theorem dX8_become_5 : decode cX8_become 5 = .ok (.getfield 10, 3) := by decide +kernel
theorem dX8_become_8 : decode cX8_become 8 = .ok (.invokevirtual 30, 3) := by decide +kernel
theorem dX8_become_11 : decode cX8_become 11 = .ok (.aload_n 0, 1) := by decide +kernel
theorem dX8_become_12 : decode cX8_become 12 = .ok (.aload_n 1, 1) := by decide +kernel
theorem dX8_become_13 : decode cX8_become 13 = .ok (.getfield 34, 3) := by decide +kernel
theorem dX8_become_16 : decode cX8_become 16 = .ok (.putfield 34, 3) := by decide +kernel
theorem dX8_become_19 : decode cX8_become 19 = .ok (.aload_n 0, 1) := by decide +kernel
theorem dX8_become_20 : decode cX8_become 20 = .ok (.aload_n 1, 1) := by decide +kernel
theorem dX8_become_21 : decode cX8_become 21 = .ok (.getfield 38, 3) := by decide +kernel
theorem dX8_become_24 : decode cX8_become 24 = .ok (.putfield 38, 3) := by decide +kernel
theorem dX8_become_27 : decode cX8_become 27 = .ok (.aload_n 1, 1) := by decide +kernel
theorem dX8_become_28 : decode cX8_become 28 = .ok (.getfield 16, 3) := by decide +kernel
theorem dX8_become_31 : decode cX8_become 31 = .ok (.iconst 0, 1) := by decide +kernel
theorem dX8_become_32 : decode cX8_become 32 = .ok (.aload_n 0, 1) := by decide +kernel
theorem dX8_become_33 : decode cX8_become 33 = .ok (.getfield 16, 3) := by decide +kernel
theorem dX8_become_36 : decode cX8_become 36 = .ok (.iconst 0, 1) := by decide +kernel
theorem dX8_become_37 : decode cX8_become 37 = .ok (.aload_n 0, 1) := by decide +kernel
theorem dX8_become_38 : decode cX8_become 38 = .ok (.getfield 16, 3) := by decide +kernel
theorem dX8_become_41 : decode cX8_become 41 = .ok (.arraylength, 1) := by decide +kernel
theorem dX8_become_42 : decode cX8_become 42 = .ok (.invokestatic 41, 3) := by decide +kernel
theorem dX8_become_45 : decode cX8_become 45 = .ok (.aload_n 1, 1) := by decide +kernel
theorem dX8_become_46 : decode cX8_become 46 = .ok (.getfield 20, 3) := by decide +kernel
theorem dX8_become_49 : decode cX8_become 49 = .ok (.iconst 0, 1) := by decide +kernel
theorem dX8_become_50 : decode cX8_become 50 = .ok (.aload_n 0, 1) := by decide +kernel
theorem dX8_become_51 : decode cX8_become 51 = .ok (.getfield 20, 3) := by decide +kernel
theorem dX8_become_54 : decode cX8_become 54 = .ok (.iconst 0, 1) := by decide +kernel
theorem dX8_become_55 : decode cX8_become 55 = .ok (.aload_n 0, 1) := by decide +kernel
theorem dX8_become_56 : decode cX8_become 56 = .ok (.getfield 20, 3) := by decide +kernel
theorem dX8_become_59 : decode cX8_become 59 = .ok (.arraylength, 1) := by decide +kernel
theorem dX8_become_60 : decode cX8_become 60 = .ok (.invokestatic 41, 3) := by decide +kernel
theorem dX8_become_63 : decode cX8_become 63 = .ok (.return_, 1) := by decide +kernel
set_option maxRecDepth 20000 in
theorem ggX8_beginAt_X9_beginAt : GoodIn wsX8_beginAt wsX9_beginAt := goodIn_r _ [7, 8, 9, 10, 28, 29, 30, 31, 32] rfl (by decide +kernel)
set_option maxRecDepth 20000 in
theorem gX8_beginAt_X9_beginAt : GoodIn wsX8_beginAt (wsV RX8 47 RX9 yX9_beginAt wsX9_beginAt) := goodIn_app (goodIn_of _ (by decide +kernel)) ggX8_beginAt_X9_beginAt
set_option maxRecDepth 20000 in
theorem ggX8_beginAt_J7_fill_53178 : GoodIn wsX8_beginAt wsJ7_fill_53178 := goodIn_r _ [14] rfl (by decide +kernel)
set_option maxRecDepth 20000 in
theorem gX8_beginAt_J7_fill_53178 : GoodIn wsX8_beginAt (va_wsS RX8 24 yJ7_fill_53178 wsJ7_fill_53178) := goodIn_app (goodIn_of _ (by decide +kernel)) ggX8_beginAt_J7_fill_53178
set_option maxRecDepth 20000 in
theorem ggX8_beginAt_X8_clearRuins : GoodIn wsX8_beginAt wsX8_clearRuins := goodIn_r _ [19, 20, 21, 22, 11, 12, 13, 14, 23, 24, 25, 26, 27] rfl (by decide +kernel)
set_option maxRecDepth 20000 in
theorem gX8_beginAt_X8_clearRuins : GoodIn wsX8_beginAt (wsV RX8 51 RX8 yX8_clearRuins wsX8_clearRuins) := goodIn_app (goodIn_of _ (by decide +kernel)) ggX8_beginAt_X8_clearRuins
theorem dX8_beginAt_0 : decode cX8_beginAt 0 = .ok (.aload_n 0, 1) := by decide +kernel
theorem dX8_beginAt_1 : decode cX8_beginAt 1 = .ok (.getfield 10, 3) := by decide +kernel
theorem dX8_beginAt_4 : decode cX8_beginAt 4 = .ok (.aload_n 1, 1) := by decide +kernel
theorem dX8_beginAt_5 : decode cX8_beginAt 5 = .ok (.invokevirtual 47, 3) := by decide +kernel
theorem dX8_beginAt_8 : decode cX8_beginAt 8 = .ok (.aload_n 0, 1) := by decide +kernel
theorem dX8_beginAt_9 : decode cX8_beginAt 9 = .ok (.getfield 16, 3) := by decide +kernel
theorem dX8_beginAt_12 : decode cX8_beginAt 12 = .ok (.iconst 0, 1) := by decide +kernel
theorem dX8_beginAt_13 : decode cX8_beginAt 13 = .ok (.invokestatic 24, 3) := by decide +kernel
theorem dX8_beginAt_16 : decode cX8_beginAt 16 = .ok (.aload_n 0, 1) := by decide +kernel
theorem dX8_beginAt_17 : decode cX8_beginAt 17 = .ok (.invokevirtual 51, 3) := by decide +kernel
theorem dX8_beginAt_20 : decode cX8_beginAt 20 = .ok (.return_, 1) := by decide +kernel
set_option maxRecDepth 20000 in
theorem ggX8_errorOn_J9_floorMod_7cf53 : GoodIn wsX8_errorOn wsJ9_floorMod_7cf53 := goodIn_r _ [5] rfl (by decide +kernel)
set_option maxRecDepth 20000 in
theorem gX8_errorOn_J9_floorMod_7cf53 : GoodIn wsX8_errorOn (va_wsS RX8 54 yJ9_floorMod_7cf53 wsJ9_floorMod_7cf53) := goodIn_app (goodIn_of _ (by decide +kernel)) ggX8_errorOn_J9_floorMod_7cf53
theorem dX8_errorOn_0 : decode cX8_errorOn 0 = .ok (.aload_n 0, 1) := by decide +kernel
theorem dX8_errorOn_1 : decode cX8_errorOn 1 = .ok (.getfield 16, 3) := by decide +kernel
theorem dX8_errorOn_4 : decode cX8_errorOn 4 = .ok (.iload_n 1, 1) := by decide +kernel
theorem dX8_errorOn_5 : decode cX8_errorOn 5 = .ok (.bipush 8, 2) := by decide +kernel
theorem dX8_errorOn_7 : decode cX8_errorOn 7 = .ok (.imul, 1) := by decide +kernel
theorem dX8_errorOn_8 : decode cX8_errorOn 8 = .ok (.iload_n 2, 1) := by decide +kernel
theorem dX8_errorOn_9 : decode cX8_errorOn 9 = .ok (.bipush 8, 2) := by decide +kernel
theorem dX8_errorOn_11 : decode cX8_errorOn 11 = .ok (.invokestatic 54, 3) := by decide +kernel
theorem dX8_errorOn_14 : decode cX8_errorOn 14 = .ok (.iadd, 1) := by decide +kernel
theorem dX8_errorOn_15 : decode cX8_errorOn 15 = .ok (.iaload, 1) := by decide +kernel
theorem dX8_errorOn_16 : decode cX8_errorOn 16 = .ok (.ireturn, 1) := by decide +kernel
set_option maxRecDepth 20000 in
theorem ggX8_tellError_X8_errorOn : GoodIn wsX8_tellError wsX8_errorOn := goodIn_r _ [6, 1, 7, 8, 9, 10, 11, 12, 13, 14, 15] rfl (by decide +kernel)
set_option maxRecDepth 20000 in
theorem gX8_tellError_X8_errorOn : GoodIn wsX8_tellError (wsV RX8 60 RX8 yX8_errorOn wsX8_errorOn) := goodIn_app (goodIn_of _ (by decide +kernel)) ggX8_tellError_X8_errorOn
set_option maxRecDepth 20000 in
theorem ggX8_tellError_J9_floorMod_7cf53 : GoodIn wsX8_tellError wsJ9_floorMod_7cf53 := goodIn_r _ [10] rfl (by decide +kernel)
set_option maxRecDepth 20000 in
theorem gX8_tellError_J9_floorMod_7cf53 : GoodIn wsX8_tellError (va_wsS RX8 54 yJ9_floorMod_7cf53 wsJ9_floorMod_7cf53) := goodIn_app (goodIn_of _ (by decide +kernel)) ggX8_tellError_J9_floorMod_7cf53
theorem dX8_tellError_0 : decode cX8_tellError 0 = .ok (.aload_n 0, 1) := by decide +kernel
theorem dX8_tellError_1 : decode cX8_tellError 1 = .ok (.iload_n 1, 1) := by decide +kernel
theorem dX8_tellError_2 : decode cX8_tellError 2 = .ok (.iload_n 2, 1) := by decide +kernel
theorem dX8_tellError_3 : decode cX8_tellError 3 = .ok (.invokevirtual 60, 3) := by decide +kernel
theorem dX8_tellError_6 : decode cX8_tellError 6 = .ok (.istore 4, 2) := by decide +kernel
theorem dX8_tellError_8 : decode cX8_tellError 8 = .ok (.aload_n 0, 1) := by decide +kernel
theorem dX8_tellError_9 : decode cX8_tellError 9 = .ok (.getfield 16, 3) := by decide +kernel
theorem dX8_tellError_12 : decode cX8_tellError 12 = .ok (.iload_n 1, 1) := by decide +kernel
theorem dX8_tellError_13 : decode cX8_tellError 13 = .ok (.bipush 8, 2) := by decide +kernel
theorem dX8_tellError_15 : decode cX8_tellError 15 = .ok (.imul, 1) := by decide +kernel
theorem dX8_tellError_16 : decode cX8_tellError 16 = .ok (.iload_n 2, 1) := by decide +kernel
theorem dX8_tellError_17 : decode cX8_tellError 17 = .ok (.bipush 8, 2) := by decide +kernel
theorem dX8_tellError_19 : decode cX8_tellError 19 = .ok (.invokestatic 54, 3) := by decide +kernel
theorem dX8_tellError_22 : decode cX8_tellError 22 = .ok (.iadd, 1) := by decide +kernel
theorem dX8_tellError_23 : decode cX8_tellError 23 = .ok (.iload_n 3, 1) := by decide +kernel
theorem dX8_tellError_24 : decode cX8_tellError 24 = .ok (.iastore, 1) := by decide +kernel
theorem dX8_tellError_25 : decode cX8_tellError 25 = .ok (.iload 4, 2) := by decide +kernel
theorem dX8_tellError_27 : decode cX8_tellError 27 = .ok (.ireturn, 1) := by decide +kernel
set_option maxRecDepth 20000 in
theorem ggX8_clearRuins_J7_fill_53178 : GoodIn wsX8_clearRuins wsJ7_fill_53178 := goodIn_r _ [7] rfl (by decide +kernel)
set_option maxRecDepth 20000 in
theorem gX8_clearRuins_J7_fill_53178 : GoodIn wsX8_clearRuins (va_wsS RX8 24 yJ7_fill_53178 wsJ7_fill_53178) := goodIn_app (goodIn_of _ (by decide +kernel)) ggX8_clearRuins_J7_fill_53178
theorem dX8_clearRuins_0 : decode cX8_clearRuins 0 = .ok (.aload_n 0, 1) := by decide +kernel
theorem dX8_clearRuins_1 : decode cX8_clearRuins 1 = .ok (.getfield 20, 3) := by decide +kernel
theorem dX8_clearRuins_4 : decode cX8_clearRuins 4 = .ok (.ldc 23, 2) := by decide +kernel
theorem dX8_clearRuins_6 : decode cX8_clearRuins 6 = .ok (.invokestatic 24, 3) := by decide +kernel
theorem dX8_clearRuins_9 : decode cX8_clearRuins 9 = .ok (.aload_n 0, 1) := by decide +kernel
theorem dX8_clearRuins_10 : decode cX8_clearRuins 10 = .ok (.iconst 0, 1) := by decide +kernel
theorem dX8_clearRuins_11 : decode cX8_clearRuins 11 = .ok (.putfield 38, 3) := by decide +kernel
theorem dX8_clearRuins_14 : decode cX8_clearRuins 14 = .ok (.return_, 1) := by decide +kernel
theorem dX8_tellRuin_0 : decode cX8_tellRuin 0 = .ok (.iconst 2, 1) := by decide +kernel
theorem dX8_tellRuin_1 : decode cX8_tellRuin 1 = .ok (.iload_n 2, 1) := by decide +kernel
theorem dX8_tellRuin_2 : decode cX8_tellRuin 2 = .ok (.imul, 1) := by decide +kernel
theorem dX8_tellRuin_3 : decode cX8_tellRuin 3 = .ok (.iload_n 1, 1) := by decide +kernel
theorem dX8_tellRuin_4 : decode cX8_tellRuin 4 = .ok (.iadd, 1) := by decide +kernel
theorem dX8_tellRuin_5 : decode cX8_tellRuin 5 = .ok (.istore 4, 2) := by decide +kernel
theorem dX8_tellRuin_7 : decode cX8_tellRuin 7 = .ok (.iload 4, 2) := by decide +kernel
theorem dX8_tellRuin_9 : decode cX8_tellRuin 9 = .ok (.ifCond .lt 47, 3) := by decide +kernel
theorem dX8_tellRuin_12 : decode cX8_tellRuin 12 = .ok (.iload 4, 2) := by decide +kernel
theorem dX8_tellRuin_14 : decode cX8_tellRuin 14 = .ok (.aload_n 0, 1) := by decide +kernel
theorem dX8_tellRuin_15 : decode cX8_tellRuin 15 = .ok (.getfield 20, 3) := by decide +kernel
theorem dX8_tellRuin_18 : decode cX8_tellRuin 18 = .ok (.arraylength, 1) := by decide +kernel
theorem dX8_tellRuin_19 : decode cX8_tellRuin 19 = .ok (.if_icmp .ge 37, 3) := by decide +kernel
theorem dX8_tellRuin_22 : decode cX8_tellRuin 22 = .ok (.aload_n 0, 1) := by decide +kernel
theorem dX8_tellRuin_23 : decode cX8_tellRuin 23 = .ok (.dup, 1) := by decide +kernel
theorem dX8_tellRuin_24 : decode cX8_tellRuin 24 = .ok (.getfield 38, 3) := by decide +kernel
theorem dX8_tellRuin_27 : decode cX8_tellRuin 27 = .ok (.aload_n 0, 1) := by decide +kernel
theorem dX8_tellRuin_28 : decode cX8_tellRuin 28 = .ok (.getfield 20, 3) := by decide +kernel
theorem dX8_tellRuin_31 : decode cX8_tellRuin 31 = .ok (.iload 4, 2) := by decide +kernel
theorem dX8_tellRuin_33 : decode cX8_tellRuin 33 = .ok (.iaload, 1) := by decide +kernel
theorem dX8_tellRuin_34 : decode cX8_tellRuin 34 = .ok (.ldc 23, 2) := by decide +kernel
theorem dX8_tellRuin_36 : decode cX8_tellRuin 36 = .ok (.if_icmp .ne 7, 3) := by decide +kernel
theorem dX8_tellRuin_39 : decode cX8_tellRuin 39 = .ok (.iconst 1, 1) := by decide +kernel
theorem dX8_tellRuin_40 : decode cX8_tellRuin 40 = .ok (.goto 4, 3) := by decide +kernel
theorem dX8_tellRuin_43 : decode cX8_tellRuin 43 = .ok (.iconst 0, 1) := by decide +kernel
theorem dX8_tellRuin_44 : decode cX8_tellRuin 44 = .ok (.iadd, 1) := by decide +kernel
theorem dX8_tellRuin_45 : decode cX8_tellRuin 45 = .ok (.putfield 38, 3) := by decide +kernel
theorem dX8_tellRuin_48 : decode cX8_tellRuin 48 = .ok (.aload_n 0, 1) := by decide +kernel
theorem dX8_tellRuin_49 : decode cX8_tellRuin 49 = .ok (.getfield 20, 3) := by decide +kernel
theorem dX8_tellRuin_52 : decode cX8_tellRuin 52 = .ok (.iload 4, 2) := by decide +kernel
theorem dX8_tellRuin_54 : decode cX8_tellRuin 54 = .ok (.iload_n 3, 1) := by decide +kernel
theorem dX8_tellRuin_55 : decode cX8_tellRuin 55 = .ok (.iastore, 1) := by decide +kernel
theorem dX8_tellRuin_56 : decode cX8_tellRuin 56 = .ok (.return_, 1) := by decide +kernel
set_option maxRecDepth 20000 in
theorem ggX8_areRuinsOf_X9_hasLine : GoodIn wsX8_areRuinsOf wsX9_hasLine := goodIn_r _ [8, 9, 10, 11, 12, 7, 13, 14, 15, 16, 22, 23, 24, 25, 26, 27, 28, 29, 30, 31, 32, 33, 34, 35] rfl (by decide +kernel)
set_option maxRecDepth 20000 in
theorem gX8_areRuinsOf_X9_hasLine : GoodIn wsX8_areRuinsOf (wsV RX8 63 RX9 yX9_hasLine wsX9_hasLine) := goodIn_app (goodIn_of _ (by decide +kernel)) ggX8_areRuinsOf_X9_hasLine
theorem dX8_areRuinsOf_0 : decode cX8_areRuinsOf 0 = .ok (.iconst 0, 1) := by decide +kernel
theorem dX8_areRuinsOf_1 : decode cX8_areRuinsOf 1 = .ok (.istore_n 2, 1) := by decide +kernel
theorem dX8_areRuinsOf_2 : decode cX8_areRuinsOf 2 = .ok (.iconst 0, 1) := by decide +kernel
theorem dX8_areRuinsOf_3 : decode cX8_areRuinsOf 3 = .ok (.istore_n 3, 1) := by decide +kernel
theorem dX8_areRuinsOf_4 : decode cX8_areRuinsOf 4 = .ok (.iload_n 3, 1) := by decide +kernel
theorem dX8_areRuinsOf_5 : decode cX8_areRuinsOf 5 = .ok (.aload_n 0, 1) := by decide +kernel
theorem dX8_areRuinsOf_6 : decode cX8_areRuinsOf 6 = .ok (.getfield 20, 3) := by decide +kernel
theorem dX8_areRuinsOf_9 : decode cX8_areRuinsOf 9 = .ok (.arraylength, 1) := by decide +kernel
theorem dX8_areRuinsOf_10 : decode cX8_areRuinsOf 10 = .ok (.if_icmp .ge 52, 3) := by decide +kernel
theorem dX8_areRuinsOf_13 : decode cX8_areRuinsOf 13 = .ok (.iload_n 2, 1) := by decide +kernel
theorem dX8_areRuinsOf_14 : decode cX8_areRuinsOf 14 = .ok (.aload_n 0, 1) := by decide +kernel
theorem dX8_areRuinsOf_15 : decode cX8_areRuinsOf 15 = .ok (.getfield 38, 3) := by decide +kernel
theorem dX8_areRuinsOf_18 : decode cX8_areRuinsOf 18 = .ok (.if_icmp .ge 44, 3) := by decide +kernel
theorem dX8_areRuinsOf_21 : decode cX8_areRuinsOf 21 = .ok (.aload_n 0, 1) := by decide +kernel
theorem dX8_areRuinsOf_22 : decode cX8_areRuinsOf 22 = .ok (.getfield 20, 3) := by decide +kernel
theorem dX8_areRuinsOf_25 : decode cX8_areRuinsOf 25 = .ok (.iload_n 3, 1) := by decide +kernel
theorem dX8_areRuinsOf_26 : decode cX8_areRuinsOf 26 = .ok (.iaload, 1) := by decide +kernel
theorem dX8_areRuinsOf_27 : decode cX8_areRuinsOf 27 = .ok (.ldc 23, 2) := by decide +kernel
theorem dX8_areRuinsOf_29 : decode cX8_areRuinsOf 29 = .ok (.if_icmp .eq 27, 3) := by decide +kernel
theorem dX8_areRuinsOf_32 : decode cX8_areRuinsOf 32 = .ok (.iinc 2 1, 3) := by decide +kernel
theorem dX8_areRuinsOf_35 : decode cX8_areRuinsOf 35 = .ok (.aload_n 1, 1) := by decide +kernel
theorem dX8_areRuinsOf_36 : decode cX8_areRuinsOf 36 = .ok (.iload_n 3, 1) := by decide +kernel
theorem dX8_areRuinsOf_37 : decode cX8_areRuinsOf 37 = .ok (.iconst 2, 1) := by decide +kernel
theorem dX8_areRuinsOf_38 : decode cX8_areRuinsOf 38 = .ok (.irem, 1) := by decide +kernel
theorem dX8_areRuinsOf_39 : decode cX8_areRuinsOf 39 = .ok (.iload_n 3, 1) := by decide +kernel
theorem dX8_areRuinsOf_40 : decode cX8_areRuinsOf 40 = .ok (.iconst 2, 1) := by decide +kernel
theorem dX8_areRuinsOf_41 : decode cX8_areRuinsOf 41 = .ok (.idiv, 1) := by decide +kernel
theorem dX8_areRuinsOf_42 : decode cX8_areRuinsOf 42 = .ok (.aload_n 0, 1) := by decide +kernel
theorem dX8_areRuinsOf_43 : decode cX8_areRuinsOf 43 = .ok (.getfield 20, 3) := by decide +kernel
theorem dX8_areRuinsOf_46 : decode cX8_areRuinsOf 46 = .ok (.iload_n 3, 1) := by decide +kernel
theorem dX8_areRuinsOf_47 : decode cX8_areRuinsOf 47 = .ok (.iaload, 1) := by decide +kernel
theorem dX8_areRuinsOf_48 : decode cX8_areRuinsOf 48 = .ok (.invokevirtual 63, 3) := by decide +kernel
theorem dX8_areRuinsOf_51 : decode cX8_areRuinsOf 51 = .ok (.ifCond .ne 5, 3) := by decide +kernel
theorem dX8_areRuinsOf_54 : decode cX8_areRuinsOf 54 = .ok (.iconst 0, 1) := by decide +kernel
theorem dX8_areRuinsOf_55 : decode cX8_areRuinsOf 55 = .ok (.ireturn, 1) := by decide +kernel
theorem dX8_areRuinsOf_56 : decode cX8_areRuinsOf 56 = .ok (.iinc 3 1, 3) := by decide +kernel
theorem dX8_areRuinsOf_59 : decode cX8_areRuinsOf 59 = .ok (.goto (-55), 3) := by decide +kernel
theorem dX8_areRuinsOf_62 : decode cX8_areRuinsOf 62 = .ok (.iconst 1, 1) := by decide +kernel
theorem dX8_areRuinsOf_63 : decode cX8_areRuinsOf 63 = .ok (.ireturn, 1) := by decide +kernel
set_option maxRecDepth 20000 in
theorem ggX9_init_X4_init : GoodIn wsX9_init wsX4_init := goodIn_r _ [14, 15, 2, 3, 8, 16, 17, 18, 19, 20, 21, 22, 23, 24, 25, 26, 27, 28, 29] rfl (by decide +kernel)
set_option maxRecDepth 20000 in
theorem gX9_init_X4_init : GoodIn wsX9_init (wsX4_init) := ggX9_init_X4_init
theorem dX9_init_0 : decode cX9_init 0 = .ok (.aload_n 0, 1) := by decide +kernel
theorem dX9_init_1 : decode cX9_init 1 = .ok (.invokespecial 3, 3) := by decide +kernel
theorem dX9_init_4 : decode cX9_init 4 = .ok (.aload_n 0, 1) := by decide +kernel
theorem dX9_init_5 : decode cX9_init 5 = .ok (.new 9, 3) := by decide +kernel
theorem dX9_init_8 : decode cX9_init 8 = .ok (.dup, 1) := by decide +kernel
theorem dX9_init_9 : decode cX9_init 9 = .ok (.invokespecial 11, 3) := by decide +kernel
theorem dX9_init_12 : decode cX9_init 12 = .ok (.putfield 12, 3) := by decide +kernel
theorem dX9_init_15 : decode cX9_init 15 = .ok (.aload_n 0, 1) := by decide +kernel
theorem dX9_init_16 : decode cX9_init 16 = .ok (.iconst 2, 1) := by decide +kernel
theorem dX9_init_17 : decode cX9_init 17 = .ok (.newarray .int, 2) := by decide +kernel
theorem dX9_init_19 : decode cX9_init 19 = .ok (.putfield 16, 3) := by decide +kernel
theorem dX9_init_22 : decode cX9_init 22 = .ok (.aload_n 0, 1) := by decide +kernel
theorem dX9_init_23 : decode cX9_init 23 = .ok (.bipush 80, 2) := by decide +kernel
theorem dX9_init_25 : decode cX9_init 25 = .ok (.newarray .int, 2) := by decide +kernel
theorem dX9_init_27 : decode cX9_init 27 = .ok (.putfield 20, 3) := by decide +kernel
theorem dX9_init_30 : decode cX9_init 30 = .ok (.aload_n 0, 1) := by decide +kernel
theorem dX9_init_31 : decode cX9_init 31 = .ok (.bipush 80, 2) := by decide +kernel
theorem dX9_init_33 : decode cX9_init 33 = .ok (.newarray .int, 2) := by decide +kernel
theorem dX9_init_35 : decode cX9_init 35 = .ok (.putfield 23, 3) := by decide +kernel
theorem dX9_init_38 : decode cX9_init 38 = .ok (.return_, 1) := by decide +kernel
theorem dX9_become_0 : decode cX9_become 0 = .ok (.aload_n 0, 1) := by decide +kernel
theorem dX9_become_1 : decode cX9_become 1 = .ok (.aload_n 1, 1) := by decide +kernel
theorem dX9_become_2 : decode cX9_become 2 = .ok (.getfield 12, 3) := by decide +kernel
theorem dX9_become_5 : decode cX9_become 5 = .ok (.putfield 12, 3) := by decide +kernel
theorem dX9_become_8 : decode cX9_become 8 = .ok (.aload_n 0, 1) := by decide +kernel
theorem dX9_become_9 : decode cX9_become 9 = .ok (.aload_n 1, 1) := by decide +kernel
theorem dX9_become_10 : decode cX9_become 10 = .ok (.getfield 26, 3) := by decide +kernel
theorem dX9_become_13 : decode cX9_become 13 = .ok (.putfield 26, 3) := by decide +kernel
theorem dX9_become_16 : decode cX9_become 16 = .ok (.iconst 0, 1) := by decide +kernel
theorem dX9_become_17 : decode cX9_become 17 = .ok (.istore_n 2, 1) := by decide +kernel
theorem dX9_become_18 : decode cX9_become 18 = .ok (.iload_n 2, 1) := by decide +kernel
theorem dX9_become_19 : decode cX9_become 19 = .ok (.iconst 2, 1) := by decide +kernel
theorem dX9_become_20 : decode cX9_become 20 = .ok (.if_icmp .ge 71, 3) := by decide +kernel
theorem dX9_become_23 : decode cX9_become 23 = .ok (.aload_n 0, 1) := by decide +kernel
theorem dX9_become_24 : decode cX9_become 24 = .ok (.getfield 16, 3) := by decide +kernel
theorem dX9_become_27 : decode cX9_become 27 = .ok (.iload_n 2, 1) := by decide +kernel
theorem dX9_become_28 : decode cX9_become 28 = .ok (.aload_n 1, 1) := by decide +kernel
theorem dX9_become_29 : decode cX9_become 29 = .ok (.getfield 16, 3) := by decide +kernel
theorem dX9_become_32 : decode cX9_become 32 = .ok (.iload_n 2, 1) := by decide +kernel
theorem dX9_become_33 : decode cX9_become 33 = .ok (.iaload, 1) := by decide +kernel
theorem dX9_become_34 : decode cX9_become 34 = .ok (.iastore, 1) := by decide +kernel
theorem dX9_become_35 : decode cX9_become 35 = .ok (.aload_n 1, 1) := by decide +kernel
theorem dX9_become_36 : decode cX9_become 36 = .ok (.getfield 20, 3) := by decide +kernel
theorem dX9_become_39 : decode cX9_become 39 = .ok (.iload_n 2, 1) := by decide +kernel
theorem dX9_become_40 : decode cX9_become 40 = .ok (.bipush 40, 2) := by decide +kernel
theorem dX9_become_42 : decode cX9_become 42 = .ok (.imul, 1) := by decide +kernel
theorem dX9_become_43 : decode cX9_become 43 = .ok (.aload_n 0, 1) := by decide +kernel
theorem dX9_become_44 : decode cX9_become 44 = .ok (.getfield 20, 3) := by decide +kernel
theorem dX9_become_47 : decode cX9_become 47 = .ok (.iload_n 2, 1) := by decide +kernel
theorem dX9_become_48 : decode cX9_become 48 = .ok (.bipush 40, 2) := by decide +kernel
theorem dX9_become_50 : decode cX9_become 50 = .ok (.imul, 1) := by decide +kernel
theorem dX9_become_51 : decode cX9_become 51 = .ok (.aload_n 0, 1) := by decide +kernel
theorem dX9_become_52 : decode cX9_become 52 = .ok (.getfield 16, 3) := by decide +kernel
theorem dX9_become_55 : decode cX9_become 55 = .ok (.iload_n 2, 1) := by decide +kernel
theorem dX9_become_56 : decode cX9_become 56 = .ok (.iaload, 1) := by decide +kernel
theorem dX9_become_57 : decode cX9_become 57 = .ok (.invokestatic 30, 3) := by decide +kernel
theorem dX9_become_60 : decode cX9_become 60 = .ok (.aload_n 1, 1) := by decide +kernel
theorem dX9_become_61 : decode cX9_become 61 = .ok (.getfield 23, 3) := by decide +kernel
theorem dX9_become_64 : decode cX9_become 64 = .ok (.iload_n 2, 1) := by decide +kernel
theorem dX9_become_65 : decode cX9_become 65 = .ok (.bipush 40, 2) := by decide +kernel
theorem dX9_become_67 : decode cX9_become 67 = .ok (.imul, 1) := by decide +kernel
theorem dX9_become_68 : decode cX9_become 68 = .ok (.aload_n 0, 1) := by decide +kernel
theorem dX9_become_69 : decode cX9_become 69 = .ok (.getfield 23, 3) := by decide +kernel
theorem dX9_become_72 : decode cX9_become 72 = .ok (.iload_n 2, 1) := by decide +kernel
theorem dX9_become_73 : decode cX9_become 73 = .ok (.bipush 40, 2) := by decide +kernel
theorem dX9_become_75 : decode cX9_become 75 = .ok (.imul, 1) := by decide +kernel
theorem dX9_become_76 : decode cX9_become 76 = .ok (.aload_n 0, 1) := by decide +kernel
theorem dX9_become_77 : decode cX9_become 77 = .ok (.getfield 16, 3) := by decide +kernel
theorem dX9_become_80 : decode cX9_become 80 = .ok (.iload_n 2, 1) := by decide +kernel
theorem dX9_become_81 : decode cX9_become 81 = .ok (.iaload, 1) := by decide +kernel
theorem dX9_become_82 : decode cX9_become 82 = .ok (.invokestatic 30, 3) := by decide +kernel
theorem dX9_become_85 : decode cX9_become 85 = .ok (.iinc 2 1, 3) := by decide +kernel
theorem dX9_become_88 : decode cX9_become 88 = .ok (.goto (-70), 3) := by decide +kernel
theorem dX9_become_91 : decode cX9_become 91 = .ok (.return_, 1) := by decide +kernel
theorem dX9_beginAt_0 : decode cX9_beginAt 0 = .ok (.aload_n 0, 1) := by decide +kernel
theorem dX9_beginAt_1 : decode cX9_beginAt 1 = .ok (.aload_n 1, 1) := by decide +kernel
theorem dX9_beginAt_2 : decode cX9_beginAt 2 = .ok (.putfield 12, 3) := by decide +kernel
theorem dX9_beginAt_5 : decode cX9_beginAt 5 = .ok (.aload_n 0, 1) := by decide +kernel
theorem dX9_beginAt_6 : decode cX9_beginAt 6 = .ok (.iconst 0, 1) := by decide +kernel
theorem dX9_beginAt_7 : decode cX9_beginAt 7 = .ok (.putfield 26, 3) := by decide +kernel
theorem dX9_beginAt_10 : decode cX9_beginAt 10 = .ok (.aload_n 0, 1) := by decide +kernel
theorem dX9_beginAt_11 : decode cX9_beginAt 11 = .ok (.getfield 16, 3) := by decide +kernel
theorem dX9_beginAt_14 : decode cX9_beginAt 14 = .ok (.iconst 0, 1) := by decide +kernel
theorem dX9_beginAt_15 : decode cX9_beginAt 15 = .ok (.iconst 0, 1) := by decide +kernel
theorem dX9_beginAt_16 : decode cX9_beginAt 16 = .ok (.iastore, 1) := by decide +kernel
theorem dX9_beginAt_17 : decode cX9_beginAt 17 = .ok (.aload_n 0, 1) := by decide +kernel
theorem dX9_beginAt_18 : decode cX9_beginAt 18 = .ok (.getfield 16, 3) := by decide +kernel
theorem dX9_beginAt_21 : decode cX9_beginAt 21 = .ok (.iconst 1, 1) := by decide +kernel
theorem dX9_beginAt_22 : decode cX9_beginAt 22 = .ok (.iconst 0, 1) := by decide +kernel
theorem dX9_beginAt_23 : decode cX9_beginAt 23 = .ok (.iastore, 1) := by decide +kernel
theorem dX9_beginAt_24 : decode cX9_beginAt 24 = .ok (.return_, 1) := by decide +kernel
theorem dX9_yardsOf_0 : decode cX9_yardsOf 0 = .ok (.aload_n 0, 1) := by decide +kernel
theorem dX9_yardsOf_1 : decode cX9_yardsOf 1 = .ok (.getfield 16, 3) := by decide +kernel
theorem dX9_yardsOf_4 : decode cX9_yardsOf 4 = .ok (.iload_n 1, 1) := by decide +kernel
theorem dX9_yardsOf_5 : decode cX9_yardsOf 5 = .ok (.iaload, 1) := by decide +kernel
theorem dX9_yardsOf_6 : decode cX9_yardsOf 6 = .ok (.ireturn, 1) := by decide +kernel
theorem dX9_gap_0 : decode cX9_gap 0 = .ok (.aload_n 0, 1) := by decide +kernel
theorem dX9_gap_1 : decode cX9_gap 1 = .ok (.getfield 12, 3) := by decide +kernel
theorem dX9_gap_4 : decode cX9_gap 4 = .ok (.getfield 36, 3) := by decide +kernel
theorem dX9_gap_7 : decode cX9_gap 7 = .ok (.aload_n 0, 1) := by decide +kernel
theorem dX9_gap_8 : decode cX9_gap 8 = .ok (.getfield 16, 3) := by decide +kernel
theorem dX9_gap_11 : decode cX9_gap 11 = .ok (.iconst 0, 1) := by decide +kernel
theorem dX9_gap_12 : decode cX9_gap 12 = .ok (.iaload, 1) := by decide +kernel
theorem dX9_gap_13 : decode cX9_gap 13 = .ok (.isub, 1) := by decide +kernel
theorem dX9_gap_14 : decode cX9_gap 14 = .ok (.aload_n 0, 1) := by decide +kernel
theorem dX9_gap_15 : decode cX9_gap 15 = .ok (.getfield 16, 3) := by decide +kernel
theorem dX9_gap_18 : decode cX9_gap 18 = .ok (.iconst 1, 1) := by decide +kernel
theorem dX9_gap_19 : decode cX9_gap 19 = .ok (.iaload, 1) := by decide +kernel
theorem dX9_gap_20 : decode cX9_gap 20 = .ok (.isub, 1) := by decide +kernel
theorem dX9_gap_21 : decode cX9_gap 21 = .ok (.ireturn, 1) := by decide +kernel
set_option maxRecDepth 20000 in
theorem ggX9_isMet_X9_gap : GoodIn wsX9_isMet wsX9_gap := goodIn_r _ [5, 6, 7, 8, 9, 10, 11, 12, 13, 14, 15, 16, 17, 18, 19, 20, 21, 22] rfl (by decide +kernel)
set_option maxRecDepth 20000 in
theorem gX9_isMet_X9_gap : GoodIn wsX9_isMet (wsV RX9 39 RX9 yX9_gap wsX9_gap) := goodIn_app (goodIn_of _ (by decide +kernel)) ggX9_isMet_X9_gap
theorem dX9_isMet_0 : decode cX9_isMet 0 = .ok (.aload_n 0, 1) := by decide +kernel
theorem dX9_isMet_1 : decode cX9_isMet 1 = .ok (.invokevirtual 39, 3) := by decide +kernel
theorem dX9_isMet_4 : decode cX9_isMet 4 = .ok (.ifCond .ne 7, 3) := by decide +kernel
theorem dX9_isMet_7 : decode cX9_isMet 7 = .ok (.iconst 1, 1) := by decide +kernel
theorem dX9_isMet_8 : decode cX9_isMet 8 = .ok (.goto 4, 3) := by decide +kernel
theorem dX9_isMet_11 : decode cX9_isMet 11 = .ok (.iconst 0, 1) := by decide +kernel
theorem dX9_isMet_12 : decode cX9_isMet 12 = .ok (.ireturn, 1) := by decide +kernel
theorem dX9_lineAt_0 : decode cX9_lineAt 0 = .ok (.iload_n 2, 1) := by decide +kernel
theorem dX9_lineAt_1 : decode cX9_lineAt 1 = .ok (.ifCond .lt 13, 3) := by decide +kernel
theorem dX9_lineAt_4 : decode cX9_lineAt 4 = .ok (.iload_n 2, 1) := by decide +kernel
theorem dX9_lineAt_5 : decode cX9_lineAt 5 = .ok (.aload_n 0, 1) := by decide +kernel
theorem dX9_lineAt_6 : decode cX9_lineAt 6 = .ok (.getfield 16, 3) := by decide +kernel
theorem dX9_lineAt_9 : decode cX9_lineAt 9 = .ok (.iload_n 1, 1) := by decide +kernel
theorem dX9_lineAt_10 : decode cX9_lineAt 10 = .ok (.iaload, 1) := by decide +kernel
theorem dX9_lineAt_11 : decode cX9_lineAt 11 = .ok (.if_icmp .lt 15, 3) := by decide +kernel
theorem dX9_lineAt_14 : decode cX9_lineAt 14 = .ok (.aload_n 0, 1) := by decide +kernel
theorem dX9_lineAt_15 : decode cX9_lineAt 15 = .ok (.getfield 12, 3) := by decide +kernel
theorem dX9_lineAt_18 : decode cX9_lineAt 18 = .ok (.getfield 43, 3) := by decide +kernel
theorem dX9_lineAt_21 : decode cX9_lineAt 21 = .ok (.iload_n 1, 1) := by decide +kernel
theorem dX9_lineAt_22 : decode cX9_lineAt 22 = .ok (.iaload, 1) := by decide +kernel
theorem dX9_lineAt_23 : decode cX9_lineAt 23 = .ok (.goto 14, 3) := by decide +kernel
theorem dX9_lineAt_26 : decode cX9_lineAt 26 = .ok (.aload_n 0, 1) := by decide +kernel
theorem dX9_lineAt_27 : decode cX9_lineAt 27 = .ok (.getfield 20, 3) := by decide +kernel
theorem dX9_lineAt_30 : decode cX9_lineAt 30 = .ok (.iload_n 1, 1) := by decide +kernel
theorem dX9_lineAt_31 : decode cX9_lineAt 31 = .ok (.bipush 40, 2) := by decide +kernel
theorem dX9_lineAt_33 : decode cX9_lineAt 33 = .ok (.imul, 1) := by decide +kernel
theorem dX9_lineAt_34 : decode cX9_lineAt 34 = .ok (.iload_n 2, 1) := by decide +kernel
theorem dX9_lineAt_35 : decode cX9_lineAt 35 = .ok (.iadd, 1) := by decide +kernel
theorem dX9_lineAt_36 : decode cX9_lineAt 36 = .ok (.iaload, 1) := by decide +kernel
theorem dX9_lineAt_37 : decode cX9_lineAt 37 = .ok (.ireturn, 1) := by decide +kernel
theorem dX9_heightAt_0 : decode cX9_heightAt 0 = .ok (.iload_n 2, 1) := by decide +kernel
theorem dX9_heightAt_1 : decode cX9_heightAt 1 = .ok (.ifCond .lt 13, 3) := by decide +kernel
theorem dX9_heightAt_4 : decode cX9_heightAt 4 = .ok (.iload_n 2, 1) := by decide +kernel
theorem dX9_heightAt_5 : decode cX9_heightAt 5 = .ok (.aload_n 0, 1) := by decide +kernel
theorem dX9_heightAt_6 : decode cX9_heightAt 6 = .ok (.getfield 16, 3) := by decide +kernel
theorem dX9_heightAt_9 : decode cX9_heightAt 9 = .ok (.iload_n 1, 1) := by decide +kernel
theorem dX9_heightAt_10 : decode cX9_heightAt 10 = .ok (.iaload, 1) := by decide +kernel
theorem dX9_heightAt_11 : decode cX9_heightAt 11 = .ok (.if_icmp .lt 15, 3) := by decide +kernel
theorem dX9_heightAt_14 : decode cX9_heightAt 14 = .ok (.aload_n 0, 1) := by decide +kernel
theorem dX9_heightAt_15 : decode cX9_heightAt 15 = .ok (.getfield 12, 3) := by decide +kernel
theorem dX9_heightAt_18 : decode cX9_heightAt 18 = .ok (.getfield 46, 3) := by decide +kernel
theorem dX9_heightAt_21 : decode cX9_heightAt 21 = .ok (.iload_n 1, 1) := by decide +kernel
theorem dX9_heightAt_22 : decode cX9_heightAt 22 = .ok (.iaload, 1) := by decide +kernel
theorem dX9_heightAt_23 : decode cX9_heightAt 23 = .ok (.goto 14, 3) := by decide +kernel
theorem dX9_heightAt_26 : decode cX9_heightAt 26 = .ok (.aload_n 0, 1) := by decide +kernel
theorem dX9_heightAt_27 : decode cX9_heightAt 27 = .ok (.getfield 23, 3) := by decide +kernel
theorem dX9_heightAt_30 : decode cX9_heightAt 30 = .ok (.iload_n 1, 1) := by decide +kernel
theorem dX9_heightAt_31 : decode cX9_heightAt 31 = .ok (.bipush 40, 2) := by decide +kernel
theorem dX9_heightAt_33 : decode cX9_heightAt 33 = .ok (.imul, 1) := by decide +kernel
theorem dX9_heightAt_34 : decode cX9_heightAt 34 = .ok (.iload_n 2, 1) := by decide +kernel
theorem dX9_heightAt_35 : decode cX9_heightAt 35 = .ok (.iadd, 1) := by decide +kernel
theorem dX9_heightAt_36 : decode cX9_heightAt 36 = .ok (.iaload, 1) := by decide +kernel
theorem dX9_heightAt_37 : decode cX9_heightAt 37 = .ok (.ireturn, 1) := by decide +kernel
set_option maxRecDepth 20000 in
theorem ggX9_hasLine_X9_lineAt : GoodIn wsX9_hasLine wsX9_lineAt := goodIn_r _ [6, 1, 7, 8, 9, 10, 11, 12, 13, 14, 15, 16, 17, 18, 19, 20, 21, 22, 23] rfl (by decide +kernel)
set_option maxRecDepth 20000 in
theorem gX9_hasLine_X9_lineAt : GoodIn wsX9_hasLine (wsV RX9 49 RX9 yX9_lineAt wsX9_lineAt) := goodIn_app (goodIn_of _ (by decide +kernel)) ggX9_hasLine_X9_lineAt
theorem dX9_hasLine_0 : decode cX9_hasLine 0 = .ok (.iload_n 2, 1) := by decide +kernel
theorem dX9_hasLine_1 : decode cX9_hasLine 1 = .ok (.aload_n 0, 1) := by decide +kernel
theorem dX9_hasLine_2 : decode cX9_hasLine 2 = .ok (.getfield 16, 3) := by decide +kernel
theorem dX9_hasLine_5 : decode cX9_hasLine 5 = .ok (.iload_n 1, 1) := by decide +kernel
theorem dX9_hasLine_6 : decode cX9_hasLine 6 = .ok (.iaload, 1) := by decide +kernel
theorem dX9_hasLine_7 : decode cX9_hasLine 7 = .ok (.if_icmp .ge 17, 3) := by decide +kernel
theorem dX9_hasLine_10 : decode cX9_hasLine 10 = .ok (.aload_n 0, 1) := by decide +kernel
theorem dX9_hasLine_11 : decode cX9_hasLine 11 = .ok (.iload_n 1, 1) := by decide +kernel
theorem dX9_hasLine_12 : decode cX9_hasLine 12 = .ok (.iload_n 2, 1) := by decide +kernel
theorem dX9_hasLine_13 : decode cX9_hasLine 13 = .ok (.invokevirtual 49, 3) := by decide +kernel
theorem dX9_hasLine_16 : decode cX9_hasLine 16 = .ok (.iload_n 3, 1) := by decide +kernel
theorem dX9_hasLine_17 : decode cX9_hasLine 17 = .ok (.if_icmp .ne 7, 3) := by decide +kernel
theorem dX9_hasLine_20 : decode cX9_hasLine 20 = .ok (.iconst 1, 1) := by decide +kernel
theorem dX9_hasLine_21 : decode cX9_hasLine 21 = .ok (.goto 4, 3) := by decide +kernel
theorem dX9_hasLine_24 : decode cX9_hasLine 24 = .ok (.iconst 0, 1) := by decide +kernel
theorem dX9_hasLine_25 : decode cX9_hasLine 25 = .ok (.ireturn, 1) := by decide +kernel
theorem dX9_tipLine_0 : decode cX9_tipLine 0 = .ok (.aload_n 0, 1) := by decide +kernel
theorem dX9_tipLine_1 : decode cX9_tipLine 1 = .ok (.getfield 16, 3) := by decide +kernel
theorem dX9_tipLine_4 : decode cX9_tipLine 4 = .ok (.iload_n 1, 1) := by decide +kernel
theorem dX9_tipLine_5 : decode cX9_tipLine 5 = .ok (.iaload, 1) := by decide +kernel
theorem dX9_tipLine_6 : decode cX9_tipLine 6 = .ok (.istore_n 2, 1) := by decide +kernel
theorem dX9_tipLine_7 : decode cX9_tipLine 7 = .ok (.iload_n 2, 1) := by decide +kernel
theorem dX9_tipLine_8 : decode cX9_tipLine 8 = .ok (.ifCond .ne 15, 3) := by decide +kernel
theorem dX9_tipLine_11 : decode cX9_tipLine 11 = .ok (.aload_n 0, 1) := by decide +kernel
theorem dX9_tipLine_12 : decode cX9_tipLine 12 = .ok (.getfield 12, 3) := by decide +kernel
theorem dX9_tipLine_15 : decode cX9_tipLine 15 = .ok (.getfield 43, 3) := by decide +kernel
theorem dX9_tipLine_18 : decode cX9_tipLine 18 = .ok (.iload_n 1, 1) := by decide +kernel
theorem dX9_tipLine_19 : decode cX9_tipLine 19 = .ok (.iaload, 1) := by decide +kernel
theorem dX9_tipLine_20 : decode cX9_tipLine 20 = .ok (.goto 16, 3) := by decide +kernel
theorem dX9_tipLine_23 : decode cX9_tipLine 23 = .ok (.aload_n 0, 1) := by decide +kernel
theorem dX9_tipLine_24 : decode cX9_tipLine 24 = .ok (.getfield 20, 3) := by decide +kernel
theorem dX9_tipLine_27 : decode cX9_tipLine 27 = .ok (.iload_n 1, 1) := by decide +kernel
theorem dX9_tipLine_28 : decode cX9_tipLine 28 = .ok (.bipush 40, 2) := by decide +kernel
theorem dX9_tipLine_30 : decode cX9_tipLine 30 = .ok (.imul, 1) := by decide +kernel
theorem dX9_tipLine_31 : decode cX9_tipLine 31 = .ok (.iload_n 2, 1) := by decide +kernel
theorem dX9_tipLine_32 : decode cX9_tipLine 32 = .ok (.iadd, 1) := by decide +kernel
theorem dX9_tipLine_33 : decode cX9_tipLine 33 = .ok (.iconst 1, 1) := by decide +kernel
theorem dX9_tipLine_34 : decode cX9_tipLine 34 = .ok (.isub, 1) := by decide +kernel
theorem dX9_tipLine_35 : decode cX9_tipLine 35 = .ok (.iaload, 1) := by decide +kernel
theorem dX9_tipLine_36 : decode cX9_tipLine 36 = .ok (.ireturn, 1) := by decide +kernel
theorem dX9_tipHeight_0 : decode cX9_tipHeight 0 = .ok (.aload_n 0, 1) := by decide +kernel
theorem dX9_tipHeight_1 : decode cX9_tipHeight 1 = .ok (.getfield 16, 3) := by decide +kernel
theorem dX9_tipHeight_4 : decode cX9_tipHeight 4 = .ok (.iload_n 1, 1) := by decide +kernel
theorem dX9_tipHeight_5 : decode cX9_tipHeight 5 = .ok (.iaload, 1) := by decide +kernel
theorem dX9_tipHeight_6 : decode cX9_tipHeight 6 = .ok (.istore_n 2, 1) := by decide +kernel
theorem dX9_tipHeight_7 : decode cX9_tipHeight 7 = .ok (.iload_n 2, 1) := by decide +kernel
theorem dX9_tipHeight_8 : decode cX9_tipHeight 8 = .ok (.ifCond .ne 15, 3) := by decide +kernel
theorem dX9_tipHeight_11 : decode cX9_tipHeight 11 = .ok (.aload_n 0, 1) := by decide +kernel
theorem dX9_tipHeight_12 : decode cX9_tipHeight 12 = .ok (.getfield 12, 3) := by decide +kernel
theorem dX9_tipHeight_15 : decode cX9_tipHeight 15 = .ok (.getfield 46, 3) := by decide +kernel
theorem dX9_tipHeight_18 : decode cX9_tipHeight 18 = .ok (.iload_n 1, 1) := by decide +kernel
theorem dX9_tipHeight_19 : decode cX9_tipHeight 19 = .ok (.iaload, 1) := by decide +kernel
theorem dX9_tipHeight_20 : decode cX9_tipHeight 20 = .ok (.goto 16, 3) := by decide +kernel
theorem dX9_tipHeight_23 : decode cX9_tipHeight 23 = .ok (.aload_n 0, 1) := by decide +kernel
theorem dX9_tipHeight_24 : decode cX9_tipHeight 24 = .ok (.getfield 23, 3) := by decide +kernel
theorem dX9_tipHeight_27 : decode cX9_tipHeight 27 = .ok (.iload_n 1, 1) := by decide +kernel
theorem dX9_tipHeight_28 : decode cX9_tipHeight 28 = .ok (.bipush 40, 2) := by decide +kernel
theorem dX9_tipHeight_30 : decode cX9_tipHeight 30 = .ok (.imul, 1) := by decide +kernel
theorem dX9_tipHeight_31 : decode cX9_tipHeight 31 = .ok (.iload_n 2, 1) := by decide +kernel
theorem dX9_tipHeight_32 : decode cX9_tipHeight 32 = .ok (.iadd, 1) := by decide +kernel
theorem dX9_tipHeight_33 : decode cX9_tipHeight 33 = .ok (.iconst 1, 1) := by decide +kernel
theorem dX9_tipHeight_34 : decode cX9_tipHeight 34 = .ok (.isub, 1) := by decide +kernel
theorem dX9_tipHeight_35 : decode cX9_tipHeight 35 = .ok (.iaload, 1) := by decide +kernel
theorem dX9_tipHeight_36 : decode cX9_tipHeight 36 = .ok (.ireturn, 1) := by decide +kernel
set_option maxRecDepth 20000 in
theorem ggX9_lastTurn_X9_tipLine : GoodIn wsX9_lastTurn wsX9_tipLine := goodIn_r _ [6, 1, 7, 8, 9, 14, 15, 16, 17, 18, 19, 20, 21, 22, 23, 24, 25, 26, 27] rfl (by decide +kernel)
set_option maxRecDepth 20000 in
theorem gX9_lastTurn_X9_tipLine : GoodIn wsX9_lastTurn (wsV RX9 53 RX9 yX9_tipLine wsX9_tipLine) := goodIn_app (goodIn_of _ (by decide +kernel)) ggX9_lastTurn_X9_tipLine
set_option maxRecDepth 20000 in
theorem ggX9_lastTurn_X9_lineAt : GoodIn wsX9_lastTurn wsX9_lineAt := goodIn_r _ [13, 1, 7, 8, 9, 14, 15, 16, 17, 18, 19, 20, 21, 22, 23, 24, 25, 26, 27] rfl (by decide +kernel)
set_option maxRecDepth 20000 in
theorem gX9_lastTurn_X9_lineAt : GoodIn wsX9_lastTurn (wsV RX9 49 RX9 yX9_lineAt wsX9_lineAt) := goodIn_app (goodIn_of _ (by decide +kernel)) ggX9_lastTurn_X9_lineAt
theorem dX9_lastTurn_0 : decode cX9_lastTurn 0 = .ok (.aload_n 0, 1) := by decide +kernel
theorem dX9_lastTurn_1 : decode cX9_lastTurn 1 = .ok (.iload_n 1, 1) := by decide +kernel
theorem dX9_lastTurn_2 : decode cX9_lastTurn 2 = .ok (.invokevirtual 53, 3) := by decide +kernel
theorem dX9_lastTurn_5 : decode cX9_lastTurn 5 = .ok (.aload_n 0, 1) := by decide +kernel
theorem dX9_lastTurn_6 : decode cX9_lastTurn 6 = .ok (.iload_n 1, 1) := by decide +kernel
theorem dX9_lastTurn_7 : decode cX9_lastTurn 7 = .ok (.aload_n 0, 1) := by decide +kernel
theorem dX9_lastTurn_8 : decode cX9_lastTurn 8 = .ok (.getfield 16, 3) := by decide +kernel
theorem dX9_lastTurn_11 : decode cX9_lastTurn 11 = .ok (.iload_n 1, 1) := by decide +kernel
theorem dX9_lastTurn_12 : decode cX9_lastTurn 12 = .ok (.iaload, 1) := by decide +kernel
theorem dX9_lastTurn_13 : decode cX9_lastTurn 13 = .ok (.iconst 2, 1) := by decide +kernel
theorem dX9_lastTurn_14 : decode cX9_lastTurn 14 = .ok (.isub, 1) := by decide +kernel
theorem dX9_lastTurn_15 : decode cX9_lastTurn 15 = .ok (.invokevirtual 49, 3) := by decide +kernel
theorem dX9_lastTurn_18 : decode cX9_lastTurn 18 = .ok (.isub, 1) := by decide +kernel
theorem dX9_lastTurn_19 : decode cX9_lastTurn 19 = .ok (.ireturn, 1) := by decide +kernel
set_option maxRecDepth 20000 in
theorem ggX9_crookedness_X9_lineAt : GoodIn wsX9_crookedness wsX9_lineAt := goodIn_r _ [10, 1, 11, 12, 13, 20, 21, 22, 23, 24, 25, 26, 27, 28, 29, 30, 31, 32, 33] rfl (by decide +kernel)
set_option maxRecDepth 20000 in
theorem gX9_crookedness_X9_lineAt : GoodIn wsX9_crookedness (wsV RX9 49 RX9 yX9_lineAt wsX9_lineAt) := goodIn_app (goodIn_of _ (by decide +kernel)) ggX9_crookedness_X9_lineAt
set_option maxRecDepth 20000 in
theorem ggX9_crookedness_X9_heightAt : GoodIn wsX9_crookedness wsX9_heightAt := goodIn_r _ [17, 1, 11, 18, 19, 20, 21, 22, 23, 24, 25, 26, 27, 28, 29, 30, 31, 32, 33] rfl (by decide +kernel)
set_option maxRecDepth 20000 in
theorem gX9_crookedness_X9_heightAt : GoodIn wsX9_crookedness (wsV RX9 62 RX9 yX9_heightAt wsX9_heightAt) := goodIn_app (goodIn_of _ (by decide +kernel)) ggX9_crookedness_X9_heightAt
theorem dX9_crookedness_0 : decode cX9_crookedness 0 = .ok (.iconst 0, 1) := by decide +kernel
theorem dX9_crookedness_1 : decode cX9_crookedness 1 = .ok (.istore_n 2, 1) := by decide +kernel
theorem dX9_crookedness_2 : decode cX9_crookedness 2 = .ok (.iconst 0, 1) := by decide +kernel
theorem dX9_crookedness_3 : decode cX9_crookedness 3 = .ok (.istore_n 3, 1) := by decide +kernel
theorem dX9_crookedness_4 : decode cX9_crookedness 4 = .ok (.iload_n 3, 1) := by decide +kernel
theorem dX9_crookedness_5 : decode cX9_crookedness 5 = .ok (.aload_n 0, 1) := by decide +kernel
theorem dX9_crookedness_6 : decode cX9_crookedness 6 = .ok (.getfield 16, 3) := by decide +kernel
theorem dX9_crookedness_9 : decode cX9_crookedness 9 = .ok (.iload_n 1, 1) := by decide +kernel
theorem dX9_crookedness_10 : decode cX9_crookedness 10 = .ok (.iaload, 1) := by decide +kernel
theorem dX9_crookedness_11 : decode cX9_crookedness 11 = .ok (.if_icmp .ge 51, 3) := by decide +kernel
theorem dX9_crookedness_14 : decode cX9_crookedness 14 = .ok (.iload_n 2, 1) := by decide +kernel
theorem dX9_crookedness_15 : decode cX9_crookedness 15 = .ok (.aload_n 0, 1) := by decide +kernel
theorem dX9_crookedness_16 : decode cX9_crookedness 16 = .ok (.iload_n 1, 1) := by decide +kernel
theorem dX9_crookedness_17 : decode cX9_crookedness 17 = .ok (.iload_n 3, 1) := by decide +kernel
theorem dX9_crookedness_18 : decode cX9_crookedness 18 = .ok (.invokevirtual 49, 3) := by decide +kernel
theorem dX9_crookedness_21 : decode cX9_crookedness 21 = .ok (.aload_n 0, 1) := by decide +kernel
theorem dX9_crookedness_22 : decode cX9_crookedness 22 = .ok (.iload_n 1, 1) := by decide +kernel
theorem dX9_crookedness_23 : decode cX9_crookedness 23 = .ok (.iload_n 3, 1) := by decide +kernel
theorem dX9_crookedness_24 : decode cX9_crookedness 24 = .ok (.iconst 1, 1) := by decide +kernel
theorem dX9_crookedness_25 : decode cX9_crookedness 25 = .ok (.isub, 1) := by decide +kernel
theorem dX9_crookedness_26 : decode cX9_crookedness 26 = .ok (.invokevirtual 49, 3) := by decide +kernel
theorem dX9_crookedness_29 : decode cX9_crookedness 29 = .ok (.isub, 1) := by decide +kernel
theorem dX9_crookedness_30 : decode cX9_crookedness 30 = .ok (.invokestatic 57, 3) := by decide +kernel
theorem dX9_crookedness_33 : decode cX9_crookedness 33 = .ok (.iadd, 1) := by decide +kernel
theorem dX9_crookedness_34 : decode cX9_crookedness 34 = .ok (.istore_n 2, 1) := by decide +kernel
theorem dX9_crookedness_35 : decode cX9_crookedness 35 = .ok (.iload_n 2, 1) := by decide +kernel
theorem dX9_crookedness_36 : decode cX9_crookedness 36 = .ok (.aload_n 0, 1) := by decide +kernel
theorem dX9_crookedness_37 : decode cX9_crookedness 37 = .ok (.iload_n 1, 1) := by decide +kernel
theorem dX9_crookedness_38 : decode cX9_crookedness 38 = .ok (.iload_n 3, 1) := by decide +kernel
theorem dX9_crookedness_39 : decode cX9_crookedness 39 = .ok (.invokevirtual 62, 3) := by decide +kernel
theorem dX9_crookedness_42 : decode cX9_crookedness 42 = .ok (.aload_n 0, 1) := by decide +kernel
theorem dX9_crookedness_43 : decode cX9_crookedness 43 = .ok (.iload_n 1, 1) := by decide +kernel
theorem dX9_crookedness_44 : decode cX9_crookedness 44 = .ok (.iload_n 3, 1) := by decide +kernel
theorem dX9_crookedness_45 : decode cX9_crookedness 45 = .ok (.iconst 1, 1) := by decide +kernel
theorem dX9_crookedness_46 : decode cX9_crookedness 46 = .ok (.isub, 1) := by decide +kernel
theorem dX9_crookedness_47 : decode cX9_crookedness 47 = .ok (.invokevirtual 62, 3) := by decide +kernel
theorem dX9_crookedness_50 : decode cX9_crookedness 50 = .ok (.isub, 1) := by decide +kernel
theorem dX9_crookedness_51 : decode cX9_crookedness 51 = .ok (.invokestatic 57, 3) := by decide +kernel
theorem dX9_crookedness_54 : decode cX9_crookedness 54 = .ok (.iadd, 1) := by decide +kernel
theorem dX9_crookedness_55 : decode cX9_crookedness 55 = .ok (.istore_n 2, 1) := by decide +kernel
theorem dX9_crookedness_56 : decode cX9_crookedness 56 = .ok (.iinc 3 1, 3) := by decide +kernel
theorem dX9_crookedness_59 : decode cX9_crookedness 59 = .ok (.goto (-55), 3) := by decide +kernel
theorem dX9_crookedness_62 : decode cX9_crookedness 62 = .ok (.iload_n 2, 1) := by decide +kernel
theorem dX9_crookedness_63 : decode cX9_crookedness 63 = .ok (.ireturn, 1) := by decide +kernel
set_option maxRecDepth 20000 in
theorem ggX9_seenLine_X9_tipLine : GoodIn wsX9_seenLine wsX9_tipLine := goodIn_r _ [7, 8, 1, 9, 10, 16, 17, 18, 19, 20, 21, 22, 23, 24, 25, 26, 27, 28, 29] rfl (by decide +kernel)
set_option maxRecDepth 20000 in
theorem gX9_seenLine_X9_tipLine : GoodIn wsX9_seenLine (wsV RX9 53 RX9 yX9_tipLine wsX9_tipLine) := goodIn_app (goodIn_of _ (by decide +kernel)) ggX9_seenLine_X9_tipLine
set_option maxRecDepth 20000 in
theorem ggX9_seenLine_X9_gap : GoodIn wsX9_seenLine wsX9_gap := goodIn_r _ [14, 1, 15, 8, 16, 17, 18, 19, 20, 21, 22, 23, 24, 25, 26, 27, 28, 29] rfl (by decide +kernel)
set_option maxRecDepth 20000 in
theorem gX9_seenLine_X9_gap : GoodIn wsX9_seenLine (wsV RX9 39 RX9 yX9_gap wsX9_gap) := goodIn_app (goodIn_of _ (by decide +kernel)) ggX9_seenLine_X9_gap
theorem dX9_seenLine_0 : decode cX9_seenLine 0 = .ok (.aload_n 0, 1) := by decide +kernel
theorem dX9_seenLine_1 : decode cX9_seenLine 1 = .ok (.iconst 1, 1) := by decide +kernel
theorem dX9_seenLine_2 : decode cX9_seenLine 2 = .ok (.iload_n 1, 1) := by decide +kernel
theorem dX9_seenLine_3 : decode cX9_seenLine 3 = .ok (.isub, 1) := by decide +kernel
theorem dX9_seenLine_4 : decode cX9_seenLine 4 = .ok (.invokevirtual 53, 3) := by decide +kernel
theorem dX9_seenLine_7 : decode cX9_seenLine 7 = .ok (.iload_n 2, 1) := by decide +kernel
theorem dX9_seenLine_8 : decode cX9_seenLine 8 = .ok (.aload_n 0, 1) := by decide +kernel
theorem dX9_seenLine_9 : decode cX9_seenLine 9 = .ok (.getfield 12, 3) := by decide +kernel
theorem dX9_seenLine_12 : decode cX9_seenLine 12 = .ok (.getfield 65, 3) := by decide +kernel
theorem dX9_seenLine_15 : decode cX9_seenLine 15 = .ok (.iload_n 1, 1) := by decide +kernel
theorem dX9_seenLine_16 : decode cX9_seenLine 16 = .ok (.iaload, 1) := by decide +kernel
theorem dX9_seenLine_17 : decode cX9_seenLine 17 = .ok (.imul, 1) := by decide +kernel
theorem dX9_seenLine_18 : decode cX9_seenLine 18 = .ok (.aload_n 0, 1) := by decide +kernel
theorem dX9_seenLine_19 : decode cX9_seenLine 19 = .ok (.invokevirtual 39, 3) := by decide +kernel
theorem dX9_seenLine_22 : decode cX9_seenLine 22 = .ok (.imul, 1) := by decide +kernel
theorem dX9_seenLine_23 : decode cX9_seenLine 23 = .ok (.bipush 90, 2) := by decide +kernel
theorem dX9_seenLine_25 : decode cX9_seenLine 25 = .ok (.idiv, 1) := by decide +kernel
theorem dX9_seenLine_26 : decode cX9_seenLine 26 = .ok (.iadd, 1) := by decide +kernel
theorem dX9_seenLine_27 : decode cX9_seenLine 27 = .ok (.ireturn, 1) := by decide +kernel
set_option maxRecDepth 20000 in
theorem ggX9_seenHeight_X9_tipHeight : GoodIn wsX9_seenHeight wsX9_tipHeight := goodIn_r _ [7, 8, 1, 9, 10, 16, 17, 18, 19, 20, 21, 22, 23, 24, 25, 26, 27, 28, 29] rfl (by decide +kernel)
set_option maxRecDepth 20000 in
theorem gX9_seenHeight_X9_tipHeight : GoodIn wsX9_seenHeight (wsV RX9 68 RX9 yX9_tipHeight wsX9_tipHeight) := goodIn_app (goodIn_of _ (by decide +kernel)) ggX9_seenHeight_X9_tipHeight
set_option maxRecDepth 20000 in
theorem ggX9_seenHeight_X9_gap : GoodIn wsX9_seenHeight wsX9_gap := goodIn_r _ [14, 1, 15, 8, 16, 17, 18, 19, 20, 21, 22, 23, 24, 25, 26, 27, 28, 29] rfl (by decide +kernel)
set_option maxRecDepth 20000 in
theorem gX9_seenHeight_X9_gap : GoodIn wsX9_seenHeight (wsV RX9 39 RX9 yX9_gap wsX9_gap) := goodIn_app (goodIn_of _ (by decide +kernel)) ggX9_seenHeight_X9_gap
theorem dX9_seenHeight_0 : decode cX9_seenHeight 0 = .ok (.aload_n 0, 1) := by decide +kernel
theorem dX9_seenHeight_1 : decode cX9_seenHeight 1 = .ok (.iconst 1, 1) := by decide +kernel
theorem dX9_seenHeight_2 : decode cX9_seenHeight 2 = .ok (.iload_n 1, 1) := by decide +kernel
theorem dX9_seenHeight_3 : decode cX9_seenHeight 3 = .ok (.isub, 1) := by decide +kernel
theorem dX9_seenHeight_4 : decode cX9_seenHeight 4 = .ok (.invokevirtual 68, 3) := by decide +kernel
theorem dX9_seenHeight_7 : decode cX9_seenHeight 7 = .ok (.iload_n 2, 1) := by decide +kernel
theorem dX9_seenHeight_8 : decode cX9_seenHeight 8 = .ok (.ineg, 1) := by decide +kernel
theorem dX9_seenHeight_9 : decode cX9_seenHeight 9 = .ok (.aload_n 0, 1) := by decide +kernel
theorem dX9_seenHeight_10 : decode cX9_seenHeight 10 = .ok (.getfield 12, 3) := by decide +kernel
theorem dX9_seenHeight_13 : decode cX9_seenHeight 13 = .ok (.getfield 65, 3) := by decide +kernel
theorem dX9_seenHeight_16 : decode cX9_seenHeight 16 = .ok (.iload_n 1, 1) := by decide +kernel
theorem dX9_seenHeight_17 : decode cX9_seenHeight 17 = .ok (.iaload, 1) := by decide +kernel
theorem dX9_seenHeight_18 : decode cX9_seenHeight 18 = .ok (.imul, 1) := by decide +kernel
theorem dX9_seenHeight_19 : decode cX9_seenHeight 19 = .ok (.aload_n 0, 1) := by decide +kernel
theorem dX9_seenHeight_20 : decode cX9_seenHeight 20 = .ok (.invokevirtual 39, 3) := by decide +kernel
theorem dX9_seenHeight_23 : decode cX9_seenHeight 23 = .ok (.imul, 1) := by decide +kernel
theorem dX9_seenHeight_24 : decode cX9_seenHeight 24 = .ok (.bipush 90, 2) := by decide +kernel
theorem dX9_seenHeight_26 : decode cX9_seenHeight 26 = .ok (.idiv, 1) := by decide +kernel
theorem dX9_seenHeight_27 : decode cX9_seenHeight 27 = .ok (.iadd, 1) := by decide +kernel
theorem dX9_seenHeight_28 : decode cX9_seenHeight 28 = .ok (.ireturn, 1) := by decide +kernel
set_option maxRecDepth 20000 in
theorem ggX9_missOfLines_X9_tipLine : GoodIn wsX9_missOfLines wsX9_tipLine := goodIn_r _ [9, 10, 11, 12, 13, 14, 15, 16, 17, 18, 19, 20, 21, 22, 23, 24, 25, 26, 27] rfl (by decide +kernel)
set_option maxRecDepth 20000 in
theorem gX9_missOfLines_X9_tipLine : GoodIn wsX9_missOfLines (wsV RX9 53 RX9 yX9_tipLine wsX9_tipLine) := goodIn_app (goodIn_of _ (by decide +kernel)) ggX9_missOfLines_X9_tipLine
theorem dX9_missOfLines_0 : decode cX9_missOfLines 0 = .ok (.aload_n 0, 1) := by decide +kernel
theorem dX9_missOfLines_1 : decode cX9_missOfLines 1 = .ok (.iconst 0, 1) := by decide +kernel
theorem dX9_missOfLines_2 : decode cX9_missOfLines 2 = .ok (.invokevirtual 53, 3) := by decide +kernel
theorem dX9_missOfLines_5 : decode cX9_missOfLines 5 = .ok (.aload_n 0, 1) := by decide +kernel
theorem dX9_missOfLines_6 : decode cX9_missOfLines 6 = .ok (.iconst 1, 1) := by decide +kernel
theorem dX9_missOfLines_7 : decode cX9_missOfLines 7 = .ok (.invokevirtual 53, 3) := by decide +kernel
theorem dX9_missOfLines_10 : decode cX9_missOfLines 10 = .ok (.isub, 1) := by decide +kernel
theorem dX9_missOfLines_11 : decode cX9_missOfLines 11 = .ok (.invokestatic 57, 3) := by decide +kernel
theorem dX9_missOfLines_14 : decode cX9_missOfLines 14 = .ok (.ireturn, 1) := by decide +kernel
set_option maxRecDepth 20000 in
theorem ggX9_missOfHeights_X9_tipHeight : GoodIn wsX9_missOfHeights wsX9_tipHeight := goodIn_r _ [9, 10, 11, 12, 13, 14, 15, 16, 17, 18, 19, 20, 21, 22, 23, 24, 25, 26, 27] rfl (by decide +kernel)
set_option maxRecDepth 20000 in
theorem gX9_missOfHeights_X9_tipHeight : GoodIn wsX9_missOfHeights (wsV RX9 68 RX9 yX9_tipHeight wsX9_tipHeight) := goodIn_app (goodIn_of _ (by decide +kernel)) ggX9_missOfHeights_X9_tipHeight
theorem dX9_missOfHeights_0 : decode cX9_missOfHeights 0 = .ok (.aload_n 0, 1) := by decide +kernel
theorem dX9_missOfHeights_1 : decode cX9_missOfHeights 1 = .ok (.iconst 0, 1) := by decide +kernel
theorem dX9_missOfHeights_2 : decode cX9_missOfHeights 2 = .ok (.invokevirtual 68, 3) := by decide +kernel
theorem dX9_missOfHeights_5 : decode cX9_missOfHeights 5 = .ok (.aload_n 0, 1) := by decide +kernel
theorem dX9_missOfHeights_6 : decode cX9_missOfHeights 6 = .ok (.iconst 1, 1) := by decide +kernel
theorem dX9_missOfHeights_7 : decode cX9_missOfHeights 7 = .ok (.invokevirtual 68, 3) := by decide +kernel
theorem dX9_missOfHeights_10 : decode cX9_missOfHeights 10 = .ok (.isub, 1) := by decide +kernel
theorem dX9_missOfHeights_11 : decode cX9_missOfHeights 11 = .ok (.invokestatic 57, 3) := by decide +kernel
theorem dX9_missOfHeights_14 : decode cX9_missOfHeights 14 = .ok (.ireturn, 1) := by decide +kernel
set_option maxRecDepth 20000 in
theorem ggX9_isInTime_X9_isMet : GoodIn wsX9_isInTime wsX9_isMet := goodIn_r _ [7, 8, 9, 10, 6, 11, 1, 12, 13, 38, 39, 40, 41, 42, 43, 44, 45, 46, 47, 48, 49, 50, 51] rfl (by decide +kernel)
set_option maxRecDepth 20000 in
theorem gX9_isInTime_X9_isMet : GoodIn wsX9_isInTime (wsV RX9 71 RX9 yX9_isMet wsX9_isMet) := goodIn_app (goodIn_of _ (by decide +kernel)) ggX9_isInTime_X9_isMet
set_option maxRecDepth 20000 in
theorem ggX9_isInTime_X9_missOfLines : GoodIn wsX9_isInTime wsX9_missOfLines := goodIn_r _ [17, 18, 19, 20, 21, 22, 23, 24, 6, 25, 13, 1, 26, 27, 38, 39, 40, 41, 42, 43, 44, 45, 46, 47, 48, 49, 50, 51] rfl (by decide +kernel)
set_option maxRecDepth 20000 in
theorem gX9_isInTime_X9_missOfLines : GoodIn wsX9_isInTime (wsV RX9 75 RX9 yX9_missOfLines wsX9_missOfLines) := goodIn_app (goodIn_of _ (by decide +kernel)) ggX9_isInTime_X9_missOfLines
set_option maxRecDepth 20000 in
theorem ggX9_isInTime_X9_missOfHeights : GoodIn wsX9_isInTime wsX9_missOfHeights := goodIn_r _ [31, 18, 19, 20, 21, 32, 33, 34, 6, 35, 13, 1, 36, 37, 38, 39, 40, 41, 42, 43, 44, 45, 46, 47, 48, 49, 50, 51] rfl (by decide +kernel)
set_option maxRecDepth 20000 in
theorem gX9_isInTime_X9_missOfHeights : GoodIn wsX9_isInTime (wsV RX9 81 RX9 yX9_missOfHeights wsX9_missOfHeights) := goodIn_app (goodIn_of _ (by decide +kernel)) ggX9_isInTime_X9_missOfHeights
theorem dX9_isInTime_0 : decode cX9_isInTime 0 = .ok (.aload_n 0, 1) := by decide +kernel
theorem dX9_isInTime_1 : decode cX9_isInTime 1 = .ok (.invokevirtual 71, 3) := by decide +kernel
theorem dX9_isInTime_4 : decode cX9_isInTime 4 = .ok (.ifCond .eq 35, 3) := by decide +kernel
theorem dX9_isInTime_7 : decode cX9_isInTime 7 = .ok (.aload_n 0, 1) := by decide +kernel
theorem dX9_isInTime_8 : decode cX9_isInTime 8 = .ok (.invokevirtual 75, 3) := by decide +kernel
theorem dX9_isInTime_11 : decode cX9_isInTime 11 = .ok (.aload_n 0, 1) := by decide +kernel
theorem dX9_isInTime_12 : decode cX9_isInTime 12 = .ok (.getfield 12, 3) := by decide +kernel
theorem dX9_isInTime_15 : decode cX9_isInTime 15 = .ok (.getfield 78, 3) := by decide +kernel
theorem dX9_isInTime_18 : decode cX9_isInTime 18 = .ok (.if_icmp .gt 21, 3) := by decide +kernel
theorem dX9_isInTime_21 : decode cX9_isInTime 21 = .ok (.aload_n 0, 1) := by decide +kernel
theorem dX9_isInTime_22 : decode cX9_isInTime 22 = .ok (.invokevirtual 81, 3) := by decide +kernel
theorem dX9_isInTime_25 : decode cX9_isInTime 25 = .ok (.aload_n 0, 1) := by decide +kernel
theorem dX9_isInTime_26 : decode cX9_isInTime 26 = .ok (.getfield 12, 3) := by decide +kernel
theorem dX9_isInTime_29 : decode cX9_isInTime 29 = .ok (.getfield 78, 3) := by decide +kernel
theorem dX9_isInTime_32 : decode cX9_isInTime 32 = .ok (.if_icmp .gt 7, 3) := by decide +kernel
theorem dX9_isInTime_35 : decode cX9_isInTime 35 = .ok (.iconst 1, 1) := by decide +kernel
theorem dX9_isInTime_36 : decode cX9_isInTime 36 = .ok (.goto 4, 3) := by decide +kernel
theorem dX9_isInTime_39 : decode cX9_isInTime 39 = .ok (.iconst 0, 1) := by decide +kernel
theorem dX9_isInTime_40 : decode cX9_isInTime 40 = .ok (.ireturn, 1) := by decide +kernel
set_option maxRecDepth 20000 in
theorem ggX9_canMeetWithout_X9_gap : GoodIn wsX9_canMeetWithout wsX9_gap := goodIn_r _ [12, 2, 13, 1, 26, 27, 28, 29, 30, 31, 32, 33, 34, 35, 36, 37, 38, 39] rfl (by decide +kernel)
set_option maxRecDepth 20000 in
theorem gX9_canMeetWithout_X9_gap : GoodIn wsX9_canMeetWithout (wsV RX9 39 RX9 yX9_gap wsX9_gap) := goodIn_app (goodIn_of _ (by decide +kernel)) ggX9_canMeetWithout_X9_gap
set_option maxRecDepth 20000 in
theorem ggX9_canMeetWithout_X9_lineAt : GoodIn wsX9_canMeetWithout wsX9_lineAt := goodIn_r _ [17, 1, 2, 18, 19, 26, 27, 28, 29, 30, 31, 32, 33, 34, 35, 36, 37, 38, 39] rfl (by decide +kernel)
set_option maxRecDepth 20000 in
theorem gX9_canMeetWithout_X9_lineAt : GoodIn wsX9_canMeetWithout (wsV RX9 49 RX9 yX9_lineAt wsX9_lineAt) := goodIn_app (goodIn_of _ (by decide +kernel)) ggX9_canMeetWithout_X9_lineAt
set_option maxRecDepth 20000 in
theorem ggX9_canMeetWithout_X9_heightAt : GoodIn wsX9_canMeetWithout wsX9_heightAt := goodIn_r _ [23, 1, 2, 24, 25, 26, 27, 28, 29, 30, 31, 32, 33, 34, 35, 36, 37, 38, 39] rfl (by decide +kernel)
set_option maxRecDepth 20000 in
theorem gX9_canMeetWithout_X9_heightAt : GoodIn wsX9_canMeetWithout (wsV RX9 62 RX9 yX9_heightAt wsX9_heightAt) := goodIn_app (goodIn_of _ (by decide +kernel)) ggX9_canMeetWithout_X9_heightAt
theorem dX9_canMeetWithout_0 : decode cX9_canMeetWithout 0 = .ok (.iload_n 1, 1) := by decide +kernel
theorem dX9_canMeetWithout_1 : decode cX9_canMeetWithout 1 = .ok (.aload_n 0, 1) := by decide +kernel
theorem dX9_canMeetWithout_2 : decode cX9_canMeetWithout 2 = .ok (.getfield 16, 3) := by decide +kernel
theorem dX9_canMeetWithout_5 : decode cX9_canMeetWithout 5 = .ok (.iconst 0, 1) := by decide +kernel
theorem dX9_canMeetWithout_6 : decode cX9_canMeetWithout 6 = .ok (.iaload, 1) := by decide +kernel
theorem dX9_canMeetWithout_7 : decode cX9_canMeetWithout 7 = .ok (.if_icmp .gt 13, 3) := by decide +kernel
theorem dX9_canMeetWithout_10 : decode cX9_canMeetWithout 10 = .ok (.iload_n 2, 1) := by decide +kernel
theorem dX9_canMeetWithout_11 : decode cX9_canMeetWithout 11 = .ok (.aload_n 0, 1) := by decide +kernel
theorem dX9_canMeetWithout_12 : decode cX9_canMeetWithout 12 = .ok (.getfield 16, 3) := by decide +kernel
theorem dX9_canMeetWithout_15 : decode cX9_canMeetWithout 15 = .ok (.iconst 1, 1) := by decide +kernel
theorem dX9_canMeetWithout_16 : decode cX9_canMeetWithout 16 = .ok (.iaload, 1) := by decide +kernel
theorem dX9_canMeetWithout_17 : decode cX9_canMeetWithout 17 = .ok (.if_icmp .le 5, 3) := by decide +kernel
theorem dX9_canMeetWithout_20 : decode cX9_canMeetWithout 20 = .ok (.iconst 0, 1) := by decide +kernel
theorem dX9_canMeetWithout_21 : decode cX9_canMeetWithout 21 = .ok (.ireturn, 1) := by decide +kernel
theorem dX9_canMeetWithout_22 : decode cX9_canMeetWithout 22 = .ok (.aload_n 0, 1) := by decide +kernel
theorem dX9_canMeetWithout_23 : decode cX9_canMeetWithout 23 = .ok (.getfield 12, 3) := by decide +kernel
theorem dX9_canMeetWithout_26 : decode cX9_canMeetWithout 26 = .ok (.getfield 84, 3) := by decide +kernel
theorem dX9_canMeetWithout_29 : decode cX9_canMeetWithout 29 = .ok (.aload_n 0, 1) := by decide +kernel
theorem dX9_canMeetWithout_30 : decode cX9_canMeetWithout 30 = .ok (.invokevirtual 39, 3) := by decide +kernel
theorem dX9_canMeetWithout_33 : decode cX9_canMeetWithout 33 = .ok (.iload_n 1, 1) := by decide +kernel
theorem dX9_canMeetWithout_34 : decode cX9_canMeetWithout 34 = .ok (.iadd, 1) := by decide +kernel
theorem dX9_canMeetWithout_35 : decode cX9_canMeetWithout 35 = .ok (.iload_n 2, 1) := by decide +kernel
theorem dX9_canMeetWithout_36 : decode cX9_canMeetWithout 36 = .ok (.iadd, 1) := by decide +kernel
theorem dX9_canMeetWithout_37 : decode cX9_canMeetWithout 37 = .ok (.iconst 1, 1) := by decide +kernel
theorem dX9_canMeetWithout_38 : decode cX9_canMeetWithout 38 = .ok (.iadd, 1) := by decide +kernel
theorem dX9_canMeetWithout_39 : decode cX9_canMeetWithout 39 = .ok (.imul, 1) := by decide +kernel
theorem dX9_canMeetWithout_40 : decode cX9_canMeetWithout 40 = .ok (.istore_n 3, 1) := by decide +kernel
theorem dX9_canMeetWithout_41 : decode cX9_canMeetWithout 41 = .ok (.aload_n 0, 1) := by decide +kernel
theorem dX9_canMeetWithout_42 : decode cX9_canMeetWithout 42 = .ok (.getfield 16, 3) := by decide +kernel
theorem dX9_canMeetWithout_45 : decode cX9_canMeetWithout 45 = .ok (.iconst 0, 1) := by decide +kernel
theorem dX9_canMeetWithout_46 : decode cX9_canMeetWithout 46 = .ok (.iaload, 1) := by decide +kernel
theorem dX9_canMeetWithout_47 : decode cX9_canMeetWithout 47 = .ok (.iload_n 1, 1) := by decide +kernel
theorem dX9_canMeetWithout_48 : decode cX9_canMeetWithout 48 = .ok (.isub, 1) := by decide +kernel
theorem dX9_canMeetWithout_49 : decode cX9_canMeetWithout 49 = .ok (.iconst 1, 1) := by decide +kernel
theorem dX9_canMeetWithout_50 : decode cX9_canMeetWithout 50 = .ok (.isub, 1) := by decide +kernel
theorem dX9_canMeetWithout_51 : decode cX9_canMeetWithout 51 = .ok (.istore 4, 2) := by decide +kernel
theorem dX9_canMeetWithout_53 : decode cX9_canMeetWithout 53 = .ok (.aload_n 0, 1) := by decide +kernel
theorem dX9_canMeetWithout_54 : decode cX9_canMeetWithout 54 = .ok (.getfield 16, 3) := by decide +kernel
theorem dX9_canMeetWithout_57 : decode cX9_canMeetWithout 57 = .ok (.iconst 1, 1) := by decide +kernel
theorem dX9_canMeetWithout_58 : decode cX9_canMeetWithout 58 = .ok (.iaload, 1) := by decide +kernel
theorem dX9_canMeetWithout_59 : decode cX9_canMeetWithout 59 = .ok (.iload_n 2, 1) := by decide +kernel
theorem dX9_canMeetWithout_60 : decode cX9_canMeetWithout 60 = .ok (.isub, 1) := by decide +kernel
theorem dX9_canMeetWithout_61 : decode cX9_canMeetWithout 61 = .ok (.iconst 1, 1) := by decide +kernel
theorem dX9_canMeetWithout_62 : decode cX9_canMeetWithout 62 = .ok (.isub, 1) := by decide +kernel
theorem dX9_canMeetWithout_63 : decode cX9_canMeetWithout 63 = .ok (.istore 5, 2) := by decide +kernel
theorem dX9_canMeetWithout_65 : decode cX9_canMeetWithout 65 = .ok (.aload_n 0, 1) := by decide +kernel
theorem dX9_canMeetWithout_66 : decode cX9_canMeetWithout 66 = .ok (.iconst 0, 1) := by decide +kernel
theorem dX9_canMeetWithout_67 : decode cX9_canMeetWithout 67 = .ok (.iload 4, 2) := by decide +kernel
theorem dX9_canMeetWithout_69 : decode cX9_canMeetWithout 69 = .ok (.invokevirtual 49, 3) := by decide +kernel
theorem dX9_canMeetWithout_72 : decode cX9_canMeetWithout 72 = .ok (.aload_n 0, 1) := by decide +kernel
theorem dX9_canMeetWithout_73 : decode cX9_canMeetWithout 73 = .ok (.iconst 1, 1) := by decide +kernel
theorem dX9_canMeetWithout_74 : decode cX9_canMeetWithout 74 = .ok (.iload 5, 2) := by decide +kernel
theorem dX9_canMeetWithout_76 : decode cX9_canMeetWithout 76 = .ok (.invokevirtual 49, 3) := by decide +kernel
theorem dX9_canMeetWithout_79 : decode cX9_canMeetWithout 79 = .ok (.isub, 1) := by decide +kernel
theorem dX9_canMeetWithout_80 : decode cX9_canMeetWithout 80 = .ok (.invokestatic 57, 3) := by decide +kernel
theorem dX9_canMeetWithout_83 : decode cX9_canMeetWithout 83 = .ok (.iload_n 3, 1) := by decide +kernel
theorem dX9_canMeetWithout_84 : decode cX9_canMeetWithout 84 = .ok (.if_icmp .gt 29, 3) := by decide +kernel
theorem dX9_canMeetWithout_87 : decode cX9_canMeetWithout 87 = .ok (.aload_n 0, 1) := by decide +kernel
theorem dX9_canMeetWithout_88 : decode cX9_canMeetWithout 88 = .ok (.iconst 0, 1) := by decide +kernel
theorem dX9_canMeetWithout_89 : decode cX9_canMeetWithout 89 = .ok (.iload 4, 2) := by decide +kernel
theorem dX9_canMeetWithout_91 : decode cX9_canMeetWithout 91 = .ok (.invokevirtual 62, 3) := by decide +kernel
theorem dX9_canMeetWithout_94 : decode cX9_canMeetWithout 94 = .ok (.aload_n 0, 1) := by decide +kernel
theorem dX9_canMeetWithout_95 : decode cX9_canMeetWithout 95 = .ok (.iconst 1, 1) := by decide +kernel
theorem dX9_canMeetWithout_96 : decode cX9_canMeetWithout 96 = .ok (.iload 5, 2) := by decide +kernel
theorem dX9_canMeetWithout_98 : decode cX9_canMeetWithout 98 = .ok (.invokevirtual 62, 3) := by decide +kernel
theorem dX9_canMeetWithout_101 : decode cX9_canMeetWithout 101 = .ok (.isub, 1) := by decide +kernel
theorem dX9_canMeetWithout_102 : decode cX9_canMeetWithout 102 = .ok (.invokestatic 57, 3) := by decide +kernel
theorem dX9_canMeetWithout_105 : decode cX9_canMeetWithout 105 = .ok (.iload_n 3, 1) := by decide +kernel
theorem dX9_canMeetWithout_106 : decode cX9_canMeetWithout 106 = .ok (.if_icmp .gt 7, 3) := by decide +kernel
theorem dX9_canMeetWithout_109 : decode cX9_canMeetWithout 109 = .ok (.iconst 1, 1) := by decide +kernel
theorem dX9_canMeetWithout_110 : decode cX9_canMeetWithout 110 = .ok (.goto 4, 3) := by decide +kernel
theorem dX9_canMeetWithout_113 : decode cX9_canMeetWithout 113 = .ok (.iconst 0, 1) := by decide +kernel
theorem dX9_canMeetWithout_114 : decode cX9_canMeetWithout 114 = .ok (.ireturn, 1) := by decide +kernel
set_option maxRecDepth 20000 in
theorem ggX9_add_X9_gap : GoodIn wsX9_add wsX9_gap := goodIn_r _ [8, 9, 10, 1, 21, 22, 23, 24, 25, 26, 27, 28, 29, 30, 31, 32, 33, 34] rfl (by decide +kernel)
set_option maxRecDepth 20000 in
theorem gX9_add_X9_gap : GoodIn wsX9_add (wsV RX9 39 RX9 yX9_gap wsX9_gap) := goodIn_app (goodIn_of _ (by decide +kernel)) ggX9_add_X9_gap
set_option maxRecDepth 20000 in
theorem ggX9_add_X9_tipLine : GoodIn wsX9_add wsX9_tipLine := goodIn_r _ [14, 1, 9, 15, 2, 21, 22, 23, 24, 25, 26, 27, 28, 29, 30, 31, 32, 33, 34] rfl (by decide +kernel)
set_option maxRecDepth 20000 in
theorem gX9_add_X9_tipLine : GoodIn wsX9_add (wsV RX9 53 RX9 yX9_tipLine wsX9_tipLine) := goodIn_app (goodIn_of _ (by decide +kernel)) ggX9_add_X9_tipLine
set_option maxRecDepth 20000 in
theorem ggX9_add_X9_tipHeight : GoodIn wsX9_add wsX9_tipHeight := goodIn_r _ [19, 1, 9, 20, 3, 21, 22, 23, 24, 25, 26, 27, 28, 29, 30, 31, 32, 33, 34] rfl (by decide +kernel)
set_option maxRecDepth 20000 in
theorem gX9_add_X9_tipHeight : GoodIn wsX9_add (wsV RX9 68 RX9 yX9_tipHeight wsX9_tipHeight) := goodIn_app (goodIn_of _ (by decide +kernel)) ggX9_add_X9_tipHeight
theorem dX9_add_0 : decode cX9_add 0 = .ok (.aload_n 0, 1) := by decide +kernel
theorem dX9_add_1 : decode cX9_add 1 = .ok (.getfield 16, 3) := by decide +kernel
theorem dX9_add_4 : decode cX9_add 4 = .ok (.iload_n 1, 1) := by decide +kernel
theorem dX9_add_5 : decode cX9_add 5 = .ok (.iaload, 1) := by decide +kernel
theorem dX9_add_6 : decode cX9_add 6 = .ok (.istore 4, 2) := by decide +kernel
theorem dX9_add_8 : decode cX9_add 8 = .ok (.aload_n 0, 1) := by decide +kernel
theorem dX9_add_9 : decode cX9_add 9 = .ok (.invokevirtual 39, 3) := by decide +kernel
theorem dX9_add_12 : decode cX9_add 12 = .ok (.ifCond .le 10, 3) := by decide +kernel
theorem dX9_add_15 : decode cX9_add 15 = .ok (.iload 4, 2) := by decide +kernel
theorem dX9_add_17 : decode cX9_add 17 = .ok (.bipush 40, 2) := by decide +kernel
theorem dX9_add_19 : decode cX9_add 19 = .ok (.if_icmp .lt 5, 3) := by decide +kernel
theorem dX9_add_22 : decode cX9_add 22 = .ok (.iconst 0, 1) := by decide +kernel
theorem dX9_add_23 : decode cX9_add 23 = .ok (.ireturn, 1) := by decide +kernel
theorem dX9_add_24 : decode cX9_add 24 = .ok (.aload_n 0, 1) := by decide +kernel
theorem dX9_add_25 : decode cX9_add 25 = .ok (.getfield 20, 3) := by decide +kernel
theorem dX9_add_28 : decode cX9_add 28 = .ok (.iload_n 1, 1) := by decide +kernel
theorem dX9_add_29 : decode cX9_add 29 = .ok (.bipush 40, 2) := by decide +kernel
theorem dX9_add_31 : decode cX9_add 31 = .ok (.imul, 1) := by decide +kernel
theorem dX9_add_32 : decode cX9_add 32 = .ok (.iload 4, 2) := by decide +kernel
theorem dX9_add_34 : decode cX9_add 34 = .ok (.iadd, 1) := by decide +kernel
theorem dX9_add_35 : decode cX9_add 35 = .ok (.aload_n 0, 1) := by decide +kernel
theorem dX9_add_36 : decode cX9_add 36 = .ok (.iload_n 1, 1) := by decide +kernel
theorem dX9_add_37 : decode cX9_add 37 = .ok (.invokevirtual 53, 3) := by decide +kernel
theorem dX9_add_40 : decode cX9_add 40 = .ok (.iload_n 2, 1) := by decide +kernel
theorem dX9_add_41 : decode cX9_add 41 = .ok (.iadd, 1) := by decide +kernel
theorem dX9_add_42 : decode cX9_add 42 = .ok (.iastore, 1) := by decide +kernel
theorem dX9_add_43 : decode cX9_add 43 = .ok (.aload_n 0, 1) := by decide +kernel
theorem dX9_add_44 : decode cX9_add 44 = .ok (.getfield 23, 3) := by decide +kernel
theorem dX9_add_47 : decode cX9_add 47 = .ok (.iload_n 1, 1) := by decide +kernel
theorem dX9_add_48 : decode cX9_add 48 = .ok (.bipush 40, 2) := by decide +kernel
theorem dX9_add_50 : decode cX9_add 50 = .ok (.imul, 1) := by decide +kernel
theorem dX9_add_51 : decode cX9_add 51 = .ok (.iload 4, 2) := by decide +kernel
theorem dX9_add_53 : decode cX9_add 53 = .ok (.iadd, 1) := by decide +kernel
theorem dX9_add_54 : decode cX9_add 54 = .ok (.aload_n 0, 1) := by decide +kernel
theorem dX9_add_55 : decode cX9_add 55 = .ok (.iload_n 1, 1) := by decide +kernel
theorem dX9_add_56 : decode cX9_add 56 = .ok (.invokevirtual 68, 3) := by decide +kernel
theorem dX9_add_59 : decode cX9_add 59 = .ok (.iload_n 3, 1) := by decide +kernel
theorem dX9_add_60 : decode cX9_add 60 = .ok (.iadd, 1) := by decide +kernel
theorem dX9_add_61 : decode cX9_add 61 = .ok (.iastore, 1) := by decide +kernel
theorem dX9_add_62 : decode cX9_add 62 = .ok (.aload_n 0, 1) := by decide +kernel
theorem dX9_add_63 : decode cX9_add 63 = .ok (.getfield 16, 3) := by decide +kernel
theorem dX9_add_66 : decode cX9_add 66 = .ok (.iload_n 1, 1) := by decide +kernel
theorem dX9_add_67 : decode cX9_add 67 = .ok (.iload 4, 2) := by decide +kernel
theorem dX9_add_69 : decode cX9_add 69 = .ok (.iconst 1, 1) := by decide +kernel
theorem dX9_add_70 : decode cX9_add 70 = .ok (.iadd, 1) := by decide +kernel
theorem dX9_add_71 : decode cX9_add 71 = .ok (.iastore, 1) := by decide +kernel
theorem dX9_add_72 : decode cX9_add 72 = .ok (.iconst 1, 1) := by decide +kernel
theorem dX9_add_73 : decode cX9_add 73 = .ok (.ireturn, 1) := by decide +kernel
theorem dX9_take_0 : decode cX9_take 0 = .ok (.aload_n 0, 1) := by decide +kernel
theorem dX9_take_1 : decode cX9_take 1 = .ok (.getfield 16, 3) := by decide +kernel
theorem dX9_take_4 : decode cX9_take 4 = .ok (.iload_n 1, 1) := by decide +kernel
theorem dX9_take_5 : decode cX9_take 5 = .ok (.iconst 0, 1) := by decide +kernel
theorem dX9_take_6 : decode cX9_take 6 = .ok (.aload_n 0, 1) := by decide +kernel
theorem dX9_take_7 : decode cX9_take 7 = .ok (.getfield 16, 3) := by decide +kernel
theorem dX9_take_10 : decode cX9_take 10 = .ok (.iload_n 1, 1) := by decide +kernel
theorem dX9_take_11 : decode cX9_take 11 = .ok (.iaload, 1) := by decide +kernel
theorem dX9_take_12 : decode cX9_take 12 = .ok (.iload_n 2, 1) := by decide +kernel
theorem dX9_take_13 : decode cX9_take 13 = .ok (.isub, 1) := by decide +kernel
theorem dX9_take_14 : decode cX9_take 14 = .ok (.invokestatic 87, 3) := by decide +kernel
theorem dX9_take_17 : decode cX9_take 17 = .ok (.iastore, 1) := by decide +kernel
theorem dX9_take_18 : decode cX9_take 18 = .ok (.return_, 1) := by decide +kernel
theorem dX9_planOfYard_0 : decode cX9_planOfYard 0 = .ok (.iload_n 0, 1) := by decide +kernel
theorem dX9_planOfYard_1 : decode cX9_planOfYard 1 = .ok (.bipush 20, 2) := by decide +kernel
theorem dX9_planOfYard_3 : decode cX9_planOfYard 3 = .ok (.iadd, 1) := by decide +kernel
theorem dX9_planOfYard_4 : decode cX9_planOfYard 4 = .ok (.bipush 41, 2) := by decide +kernel
theorem dX9_planOfYard_6 : decode cX9_planOfYard 6 = .ok (.imul, 1) := by decide +kernel
theorem dX9_planOfYard_7 : decode cX9_planOfYard 7 = .ok (.iload_n 1, 1) := by decide +kernel
theorem dX9_planOfYard_8 : decode cX9_planOfYard 8 = .ok (.iadd, 1) := by decide +kernel
theorem dX9_planOfYard_9 : decode cX9_planOfYard 9 = .ok (.bipush 20, 2) := by decide +kernel
theorem dX9_planOfYard_11 : decode cX9_planOfYard 11 = .ok (.iadd, 1) := by decide +kernel
theorem dX9_planOfYard_12 : decode cX9_planOfYard 12 = .ok (.ireturn, 1) := by decide +kernel
set_option maxRecDepth 20000 in
theorem ggX9_act_X9_take : GoodIn wsX9_act wsX9_take := goodIn_r _ [5, 6, 7, 8, 9, 10, 33, 34, 35, 36, 37] rfl (by decide +kernel)
set_option maxRecDepth 20000 in
theorem gX9_act_X9_take : GoodIn wsX9_act (wsV RX9 90 RX9 yX9_take wsX9_take) := goodIn_app (goodIn_of _ (by decide +kernel)) ggX9_act_X9_take
set_option maxRecDepth 20000 in
theorem ggX9_act_X9_add : GoodIn wsX9_act wsX9_add := goodIn_r _ [14, 6, 15, 16, 17, 18, 19, 4, 20, 21, 22, 23, 24, 25, 26, 27, 28, 29, 30, 31, 32, 33, 34, 35, 36, 37, 38, 39, 40, 41, 42, 43, 44, 45, 46] rfl (by decide +kernel)
set_option maxRecDepth 20000 in
theorem gX9_act_X9_add : GoodIn wsX9_act (wsV RX9 94 RX9 yX9_add wsX9_add) := goodIn_app (goodIn_of _ (by decide +kernel)) ggX9_act_X9_add
theorem dX9_act_0 : decode cX9_act 0 = .ok (.iload_n 2, 1) := by decide +kernel
theorem dX9_act_1 : decode cX9_act 1 = .ok (.iconst (-1), 1) := by decide +kernel
theorem dX9_act_2 : decode cX9_act 2 = .ok (.if_icmp .ne 12, 3) := by decide +kernel
theorem dX9_act_5 : decode cX9_act 5 = .ok (.aload_n 0, 1) := by decide +kernel
theorem dX9_act_6 : decode cX9_act 6 = .ok (.iload_n 1, 1) := by decide +kernel
theorem dX9_act_7 : decode cX9_act 7 = .ok (.iconst 1, 1) := by decide +kernel
theorem dX9_act_8 : decode cX9_act 8 = .ok (.invokevirtual 90, 3) := by decide +kernel
theorem dX9_act_11 : decode cX9_act 11 = .ok (.goto 27, 3) := by decide +kernel
theorem dX9_act_14 : decode cX9_act 14 = .ok (.iload_n 2, 1) := by decide +kernel
theorem dX9_act_15 : decode cX9_act 15 = .ok (.ifCond .lt 23, 3) := by decide +kernel
theorem dX9_act_18 : decode cX9_act 18 = .ok (.aload_n 0, 1) := by decide +kernel
theorem dX9_act_19 : decode cX9_act 19 = .ok (.iload_n 1, 1) := by decide +kernel
theorem dX9_act_20 : decode cX9_act 20 = .ok (.iload_n 2, 1) := by decide +kernel
theorem dX9_act_21 : decode cX9_act 21 = .ok (.bipush 41, 2) := by decide +kernel
theorem dX9_act_23 : decode cX9_act 23 = .ok (.idiv, 1) := by decide +kernel
theorem dX9_act_24 : decode cX9_act 24 = .ok (.bipush 20, 2) := by decide +kernel
theorem dX9_act_26 : decode cX9_act 26 = .ok (.isub, 1) := by decide +kernel
theorem dX9_act_27 : decode cX9_act 27 = .ok (.iload_n 2, 1) := by decide +kernel
theorem dX9_act_28 : decode cX9_act 28 = .ok (.bipush 41, 2) := by decide +kernel
theorem dX9_act_30 : decode cX9_act 30 = .ok (.irem, 1) := by decide +kernel
theorem dX9_act_31 : decode cX9_act 31 = .ok (.bipush 20, 2) := by decide +kernel
theorem dX9_act_33 : decode cX9_act 33 = .ok (.isub, 1) := by decide +kernel
theorem dX9_act_34 : decode cX9_act 34 = .ok (.invokevirtual 94, 3) := by decide +kernel
theorem dX9_act_37 : decode cX9_act 37 = .ok (.pop, 1) := by decide +kernel
theorem dX9_act_38 : decode cX9_act 38 = .ok (.return_, 1) := by decide +kernel
set_option maxRecDepth 20000 in
theorem ggX9_endDay_X9_take : GoodIn wsX9_endDay wsX9_take := goodIn_r _ [10, 11, 12, 13, 14, 15, 16, 17, 18, 19, 20] rfl (by decide +kernel)
set_option maxRecDepth 20000 in
theorem gX9_endDay_X9_take : GoodIn wsX9_endDay (wsV RX9 90 RX9 yX9_take wsX9_take) := goodIn_app (goodIn_of _ (by decide +kernel)) ggX9_endDay_X9_take
theorem dX9_endDay_0 : decode cX9_endDay 0 = .ok (.iconst 0, 1) := by decide +kernel
theorem dX9_endDay_1 : decode cX9_endDay 1 = .ok (.istore_n 1, 1) := by decide +kernel
theorem dX9_endDay_2 : decode cX9_endDay 2 = .ok (.iload_n 1, 1) := by decide +kernel
theorem dX9_endDay_3 : decode cX9_endDay 3 = .ok (.aload_n 0, 1) := by decide +kernel
theorem dX9_endDay_4 : decode cX9_endDay 4 = .ok (.getfield 12, 3) := by decide +kernel
theorem dX9_endDay_7 : decode cX9_endDay 7 = .ok (.getfield 98, 3) := by decide +kernel
theorem dX9_endDay_10 : decode cX9_endDay 10 = .ok (.if_icmp .ge 59, 3) := by decide +kernel
theorem dX9_endDay_13 : decode cX9_endDay 13 = .ok (.iload_n 1, 1) := by decide +kernel
theorem dX9_endDay_14 : decode cX9_endDay 14 = .ok (.bipush 8, 2) := by decide +kernel
theorem dX9_endDay_16 : decode cX9_endDay 16 = .ok (.if_icmp .ge 53, 3) := by decide +kernel
theorem dX9_endDay_19 : decode cX9_endDay 19 = .ok (.aload_n 0, 1) := by decide +kernel
theorem dX9_endDay_20 : decode cX9_endDay 20 = .ok (.getfield 12, 3) := by decide +kernel
theorem dX9_endDay_23 : decode cX9_endDay 23 = .ok (.getfield 101, 3) := by decide +kernel
theorem dX9_endDay_26 : decode cX9_endDay 26 = .ok (.iload_n 1, 1) := by decide +kernel
theorem dX9_endDay_27 : decode cX9_endDay 27 = .ok (.iaload, 1) := by decide +kernel
theorem dX9_endDay_28 : decode cX9_endDay 28 = .ok (.aload_n 0, 1) := by decide +kernel
theorem dX9_endDay_29 : decode cX9_endDay 29 = .ok (.getfield 26, 3) := by decide +kernel
theorem dX9_endDay_32 : decode cX9_endDay 32 = .ok (.if_icmp .ne 31, 3) := by decide +kernel
theorem dX9_endDay_35 : decode cX9_endDay 35 = .ok (.aload_n 0, 1) := by decide +kernel
theorem dX9_endDay_36 : decode cX9_endDay 36 = .ok (.iconst 0, 1) := by decide +kernel
theorem dX9_endDay_37 : decode cX9_endDay 37 = .ok (.aload_n 0, 1) := by decide +kernel
theorem dX9_endDay_38 : decode cX9_endDay 38 = .ok (.getfield 12, 3) := by decide +kernel
theorem dX9_endDay_41 : decode cX9_endDay 41 = .ok (.getfield 104, 3) := by decide +kernel
theorem dX9_endDay_44 : decode cX9_endDay 44 = .ok (.iload_n 1, 1) := by decide +kernel
theorem dX9_endDay_45 : decode cX9_endDay 45 = .ok (.iaload, 1) := by decide +kernel
theorem dX9_endDay_46 : decode cX9_endDay 46 = .ok (.invokevirtual 90, 3) := by decide +kernel
theorem dX9_endDay_49 : decode cX9_endDay 49 = .ok (.aload_n 0, 1) := by decide +kernel
theorem dX9_endDay_50 : decode cX9_endDay 50 = .ok (.iconst 1, 1) := by decide +kernel
theorem dX9_endDay_51 : decode cX9_endDay 51 = .ok (.aload_n 0, 1) := by decide +kernel
theorem dX9_endDay_52 : decode cX9_endDay 52 = .ok (.getfield 12, 3) := by decide +kernel
theorem dX9_endDay_55 : decode cX9_endDay 55 = .ok (.getfield 104, 3) := by decide +kernel
theorem dX9_endDay_58 : decode cX9_endDay 58 = .ok (.iload_n 1, 1) := by decide +kernel
theorem dX9_endDay_59 : decode cX9_endDay 59 = .ok (.iaload, 1) := by decide +kernel
theorem dX9_endDay_60 : decode cX9_endDay 60 = .ok (.invokevirtual 90, 3) := by decide +kernel
theorem dX9_endDay_63 : decode cX9_endDay 63 = .ok (.iinc 1 1, 3) := by decide +kernel
theorem dX9_endDay_66 : decode cX9_endDay 66 = .ok (.goto (-64), 3) := by decide +kernel
theorem dX9_endDay_69 : decode cX9_endDay 69 = .ok (.aload_n 0, 1) := by decide +kernel
theorem dX9_endDay_70 : decode cX9_endDay 70 = .ok (.dup, 1) := by decide +kernel
theorem dX9_endDay_71 : decode cX9_endDay 71 = .ok (.getfield 26, 3) := by decide +kernel
theorem dX9_endDay_74 : decode cX9_endDay 74 = .ok (.iconst 1, 1) := by decide +kernel
theorem dX9_endDay_75 : decode cX9_endDay 75 = .ok (.iadd, 1) := by decide +kernel
theorem dX9_endDay_76 : decode cX9_endDay 76 = .ok (.putfield 26, 3) := by decide +kernel
theorem dX9_endDay_79 : decode cX9_endDay 79 = .ok (.return_, 1) := by decide +kernel
set_option maxRecDepth 20000 in
theorem ggX9_pack_X9_lineAt : GoodIn wsX9_pack wsX9_lineAt := goodIn_r _ [7, 1, 8, 9, 10, 20, 21, 22, 23, 24, 25, 26, 27, 28, 29, 30, 31, 32, 33] rfl (by decide +kernel)
set_option maxRecDepth 20000 in
theorem gX9_pack_X9_lineAt : GoodIn wsX9_pack (wsV RX9 49 RX9 yX9_lineAt wsX9_lineAt) := goodIn_app (goodIn_of _ (by decide +kernel)) ggX9_pack_X9_lineAt
set_option maxRecDepth 20000 in
theorem ggX9_pack_X9_heightAt : GoodIn wsX9_pack wsX9_heightAt := goodIn_r _ [14, 1, 8, 15, 16, 20, 21, 22, 23, 24, 25, 26, 27, 28, 29, 30, 31, 32, 33] rfl (by decide +kernel)
set_option maxRecDepth 20000 in
theorem gX9_pack_X9_heightAt : GoodIn wsX9_pack (wsV RX9 62 RX9 yX9_heightAt wsX9_heightAt) := goodIn_app (goodIn_of _ (by decide +kernel)) ggX9_pack_X9_heightAt
set_option maxRecDepth 20000 in
theorem ggX9_pack_X9_planOfYard : GoodIn wsX9_pack wsX9_planOfYard := goodIn_r _ [19] rfl (by decide +kernel)
set_option maxRecDepth 20000 in
theorem gX9_pack_X9_planOfYard : GoodIn wsX9_pack (va_wsS RX9 109 yX9_planOfYard wsX9_planOfYard) := goodIn_app (goodIn_of _ (by decide +kernel)) ggX9_pack_X9_planOfYard
theorem dX9_pack_0 : decode cX9_pack 0 = .ok (.iload_n 2, 1) := by decide +kernel
theorem dX9_pack_1 : decode cX9_pack 1 = .ok (.ifCond .lt 12, 3) := by decide +kernel
theorem dX9_pack_4 : decode cX9_pack 4 = .ok (.iload_n 2, 1) := by decide +kernel
theorem dX9_pack_5 : decode cX9_pack 5 = .ok (.bipush 9, 2) := by decide +kernel
theorem dX9_pack_7 : decode cX9_pack 7 = .ok (.iadd, 1) := by decide +kernel
theorem dX9_pack_8 : decode cX9_pack 8 = .ok (.aload_n 1, 1) := by decide +kernel
theorem dX9_pack_9 : decode cX9_pack 9 = .ok (.arraylength, 1) := by decide +kernel
theorem dX9_pack_10 : decode cX9_pack 10 = .ok (.if_icmp .le 4, 3) := by decide +kernel
theorem dX9_pack_13 : decode cX9_pack 13 = .ok (.return_, 1) := by decide +kernel
theorem dX9_pack_14 : decode cX9_pack 14 = .ok (.iconst 0, 1) := by decide +kernel
theorem dX9_pack_15 : decode cX9_pack 15 = .ok (.istore_n 3, 1) := by decide +kernel
theorem dX9_pack_16 : decode cX9_pack 16 = .ok (.iload_n 3, 1) := by decide +kernel
theorem dX9_pack_17 : decode cX9_pack 17 = .ok (.bipush 9, 2) := by decide +kernel
theorem dX9_pack_19 : decode cX9_pack 19 = .ok (.if_icmp .ge 15, 3) := by decide +kernel
theorem dX9_pack_22 : decode cX9_pack 22 = .ok (.aload_n 1, 1) := by decide +kernel
theorem dX9_pack_23 : decode cX9_pack 23 = .ok (.iload_n 2, 1) := by decide +kernel
theorem dX9_pack_24 : decode cX9_pack 24 = .ok (.iload_n 3, 1) := by decide +kernel
theorem dX9_pack_25 : decode cX9_pack 25 = .ok (.iadd, 1) := by decide +kernel
theorem dX9_pack_26 : decode cX9_pack 26 = .ok (.lconst 0, 1) := by decide +kernel
theorem dX9_pack_27 : decode cX9_pack 27 = .ok (.lastore, 1) := by decide +kernel
theorem dX9_pack_28 : decode cX9_pack 28 = .ok (.iinc 3 1, 3) := by decide +kernel
theorem dX9_pack_31 : decode cX9_pack 31 = .ok (.goto (-15), 3) := by decide +kernel
theorem dX9_pack_34 : decode cX9_pack 34 = .ok (.aload_n 1, 1) := by decide +kernel
theorem dX9_pack_35 : decode cX9_pack 35 = .ok (.iload_n 2, 1) := by decide +kernel
theorem dX9_pack_36 : decode cX9_pack 36 = .ok (.aload_n 0, 1) := by decide +kernel
theorem dX9_pack_37 : decode cX9_pack 37 = .ok (.getfield 16, 3) := by decide +kernel
theorem dX9_pack_40 : decode cX9_pack 40 = .ok (.iconst 0, 1) := by decide +kernel
theorem dX9_pack_41 : decode cX9_pack 41 = .ok (.iaload, 1) := by decide +kernel
theorem dX9_pack_42 : decode cX9_pack 42 = .ok (.bipush 41, 2) := by decide +kernel
theorem dX9_pack_44 : decode cX9_pack 44 = .ok (.imul, 1) := by decide +kernel
theorem dX9_pack_45 : decode cX9_pack 45 = .ok (.aload_n 0, 1) := by decide +kernel
theorem dX9_pack_46 : decode cX9_pack 46 = .ok (.getfield 16, 3) := by decide +kernel
theorem dX9_pack_49 : decode cX9_pack 49 = .ok (.iconst 1, 1) := by decide +kernel
theorem dX9_pack_50 : decode cX9_pack 50 = .ok (.iaload, 1) := by decide +kernel
theorem dX9_pack_51 : decode cX9_pack 51 = .ok (.iadd, 1) := by decide +kernel
theorem dX9_pack_52 : decode cX9_pack 52 = .ok (.i2l, 1) := by decide +kernel
theorem dX9_pack_53 : decode cX9_pack 53 = .ok (.lastore, 1) := by decide +kernel
theorem dX9_pack_54 : decode cX9_pack 54 = .ok (.iconst 0, 1) := by decide +kernel
theorem dX9_pack_55 : decode cX9_pack 55 = .ok (.istore_n 3, 1) := by decide +kernel
theorem dX9_pack_56 : decode cX9_pack 56 = .ok (.iconst 0, 1) := by decide +kernel
theorem dX9_pack_57 : decode cX9_pack 57 = .ok (.istore 4, 2) := by decide +kernel
theorem dX9_pack_59 : decode cX9_pack 59 = .ok (.iload 4, 2) := by decide +kernel
theorem dX9_pack_61 : decode cX9_pack 61 = .ok (.iconst 2, 1) := by decide +kernel
theorem dX9_pack_62 : decode cX9_pack 62 = .ok (.if_icmp .ge 115, 3) := by decide +kernel
theorem dX9_pack_65 : decode cX9_pack 65 = .ok (.iconst 0, 1) := by decide +kernel
theorem dX9_pack_66 : decode cX9_pack 66 = .ok (.istore 5, 2) := by decide +kernel
theorem dX9_pack_68 : decode cX9_pack 68 = .ok (.iload 5, 2) := by decide +kernel
theorem dX9_pack_70 : decode cX9_pack 70 = .ok (.aload_n 0, 1) := by decide +kernel
theorem dX9_pack_71 : decode cX9_pack 71 = .ok (.getfield 16, 3) := by decide +kernel
theorem dX9_pack_74 : decode cX9_pack 74 = .ok (.iload 4, 2) := by decide +kernel
theorem dX9_pack_76 : decode cX9_pack 76 = .ok (.iaload, 1) := by decide +kernel
theorem dX9_pack_77 : decode cX9_pack 77 = .ok (.if_icmp .ge 94, 3) := by decide +kernel
theorem dX9_pack_80 : decode cX9_pack 80 = .ok (.iload_n 3, 1) := by decide +kernel
theorem dX9_pack_81 : decode cX9_pack 81 = .ok (.bipush 40, 2) := by decide +kernel
theorem dX9_pack_83 : decode cX9_pack 83 = .ok (.if_icmp .ge 88, 3) := by decide +kernel
theorem dX9_pack_86 : decode cX9_pack 86 = .ok (.aload_n 0, 1) := by decide +kernel
theorem dX9_pack_87 : decode cX9_pack 87 = .ok (.iload 4, 2) := by decide +kernel
theorem dX9_pack_89 : decode cX9_pack 89 = .ok (.iload 5, 2) := by decide +kernel
theorem dX9_pack_91 : decode cX9_pack 91 = .ok (.invokevirtual 49, 3) := by decide +kernel
theorem dX9_pack_94 : decode cX9_pack 94 = .ok (.aload_n 0, 1) := by decide +kernel
theorem dX9_pack_95 : decode cX9_pack 95 = .ok (.iload 4, 2) := by decide +kernel
theorem dX9_pack_97 : decode cX9_pack 97 = .ok (.iload 5, 2) := by decide +kernel
theorem dX9_pack_99 : decode cX9_pack 99 = .ok (.iconst 1, 1) := by decide +kernel
theorem dX9_pack_100 : decode cX9_pack 100 = .ok (.isub, 1) := by decide +kernel
theorem dX9_pack_101 : decode cX9_pack 101 = .ok (.invokevirtual 49, 3) := by decide +kernel
theorem dX9_pack_104 : decode cX9_pack 104 = .ok (.isub, 1) := by decide +kernel
theorem dX9_pack_105 : decode cX9_pack 105 = .ok (.istore 6, 2) := by decide +kernel
theorem dX9_pack_107 : decode cX9_pack 107 = .ok (.aload_n 0, 1) := by decide +kernel
theorem dX9_pack_108 : decode cX9_pack 108 = .ok (.iload 4, 2) := by decide +kernel
theorem dX9_pack_110 : decode cX9_pack 110 = .ok (.iload 5, 2) := by decide +kernel
theorem dX9_pack_112 : decode cX9_pack 112 = .ok (.invokevirtual 62, 3) := by decide +kernel
theorem dX9_pack_115 : decode cX9_pack 115 = .ok (.aload_n 0, 1) := by decide +kernel
theorem dX9_pack_116 : decode cX9_pack 116 = .ok (.iload 4, 2) := by decide +kernel
theorem dX9_pack_118 : decode cX9_pack 118 = .ok (.iload 5, 2) := by decide +kernel
theorem dX9_pack_120 : decode cX9_pack 120 = .ok (.iconst 1, 1) := by decide +kernel
theorem dX9_pack_121 : decode cX9_pack 121 = .ok (.isub, 1) := by decide +kernel
theorem dX9_pack_122 : decode cX9_pack 122 = .ok (.invokevirtual 62, 3) := by decide +kernel
theorem dX9_pack_125 : decode cX9_pack 125 = .ok (.isub, 1) := by decide +kernel
theorem dX9_pack_126 : decode cX9_pack 126 = .ok (.istore 7, 2) := by decide +kernel
theorem dX9_pack_128 : decode cX9_pack 128 = .ok (.iload_n 2, 1) := by decide +kernel
theorem dX9_pack_129 : decode cX9_pack 129 = .ok (.iconst 1, 1) := by decide +kernel
theorem dX9_pack_130 : decode cX9_pack 130 = .ok (.iadd, 1) := by decide +kernel
theorem dX9_pack_131 : decode cX9_pack 131 = .ok (.iload_n 3, 1) := by decide +kernel
theorem dX9_pack_132 : decode cX9_pack 132 = .ok (.iconst 5, 1) := by decide +kernel
theorem dX9_pack_133 : decode cX9_pack 133 = .ok (.idiv, 1) := by decide +kernel
theorem dX9_pack_134 : decode cX9_pack 134 = .ok (.iadd, 1) := by decide +kernel
theorem dX9_pack_135 : decode cX9_pack 135 = .ok (.istore 8, 2) := by decide +kernel
theorem dX9_pack_137 : decode cX9_pack 137 = .ok (.aload_n 1, 1) := by decide +kernel
theorem dX9_pack_138 : decode cX9_pack 138 = .ok (.iload 8, 2) := by decide +kernel
theorem dX9_pack_140 : decode cX9_pack 140 = .ok (.aload_n 1, 1) := by decide +kernel
theorem dX9_pack_141 : decode cX9_pack 141 = .ok (.iload 8, 2) := by decide +kernel
theorem dX9_pack_143 : decode cX9_pack 143 = .ok (.laload, 1) := by decide +kernel
theorem dX9_pack_144 : decode cX9_pack 144 = .ok (.ldc2_w 107, 3) := by decide +kernel
theorem dX9_pack_147 : decode cX9_pack 147 = .ok (.lmul, 1) := by decide +kernel
theorem dX9_pack_148 : decode cX9_pack 148 = .ok (.ldc2_w 107, 3) := by decide +kernel
theorem dX9_pack_151 : decode cX9_pack 151 = .ok (.lmul, 1) := by decide +kernel
theorem dX9_pack_152 : decode cX9_pack 152 = .ok (.iload 6, 2) := by decide +kernel
theorem dX9_pack_154 : decode cX9_pack 154 = .ok (.iload 7, 2) := by decide +kernel
theorem dX9_pack_156 : decode cX9_pack 156 = .ok (.invokestatic 109, 3) := by decide +kernel
theorem dX9_pack_159 : decode cX9_pack 159 = .ok (.i2l, 1) := by decide +kernel
theorem dX9_pack_160 : decode cX9_pack 160 = .ok (.ladd, 1) := by decide +kernel
theorem dX9_pack_161 : decode cX9_pack 161 = .ok (.lastore, 1) := by decide +kernel
theorem dX9_pack_162 : decode cX9_pack 162 = .ok (.iinc 3 1, 3) := by decide +kernel
theorem dX9_pack_165 : decode cX9_pack 165 = .ok (.iinc 5 1, 3) := by decide +kernel
theorem dX9_pack_168 : decode cX9_pack 168 = .ok (.goto (-100), 3) := by decide +kernel
theorem dX9_pack_171 : decode cX9_pack 171 = .ok (.iinc 4 1, 3) := by decide +kernel
theorem dX9_pack_174 : decode cX9_pack 174 = .ok (.goto (-115), 3) := by decide +kernel
theorem dX9_pack_177 : decode cX9_pack 177 = .ok (.return_, 1) := by decide +kernel
