theorem dX12_first_65 : decode cX12_first 65 = .ok (.iadd, 1) := by decide +kernel
theorem dX12_first_66 : decode cX12_first 66 = .ok (.iaload, 1) := by decide +kernel
theorem dX12_first_67 : decode cX12_first 67 = .ok (.aload_n 0, 1) := by decide +kernel
theorem dX12_first_68 : decode cX12_first 68 = .ok (.getfield 20, 3) := by decide +kernel
theorem dX12_first_71 : decode cX12_first 71 = .ok (.iload 4, 2) := by decide +kernel
theorem dX12_first_73 : decode cX12_first 73 = .ok (.iconst 2, 1) := by decide +kernel
theorem dX12_first_74 : decode cX12_first 74 = .ok (.iadd, 1) := by decide +kernel
theorem dX12_first_75 : decode cX12_first 75 = .ok (.iaload, 1) := by decide +kernel
theorem dX12_first_76 : decode cX12_first 76 = .ok (.invokevirtual 367, 3) := by decide +kernel
theorem dX12_first_79 : decode cX12_first 79 = .ok (.invokevirtual 374, 3) := by decide +kernel
theorem dX12_first_82 : decode cX12_first 82 = .ok (.ireturn, 1) := by decide +kernel
theorem dX12_first_83 : decode cX12_first 83 = .ok (.iinc 3 1, 3) := by decide +kernel
theorem dX12_first_86 : decode cX12_first 86 = .ok (.goto (-84), 3) := by decide +kernel
theorem dX12_first_89 : decode cX12_first 89 = .ok (.iconst 0, 1) := by decide +kernel
theorem dX12_first_90 : decode cX12_first 90 = .ok (.ireturn, 1) := by decide +kernel
set_option maxRecDepth 20000 in
theorem ggX12_looks_X12_tipOf : GoodIn wsX12_looks wsX12_tipOf := goodIn_r _ [10, 4, 11, 12, 13, 9, 14, 64, 65, 66, 67, 68, 69, 70, 71, 72, 73, 74, 75, 76, 77, 78, 79, 80, 81, 82, 83, 84, 85, 86, 87, 88, 89, 90, 91, 92, 93, 94, 95, 96, 97, 98, 99, 100, 101, 102, 103, 104, 105] rfl (by decide +kernel)
set_option maxRecDepth 20000 in
theorem gX12_looks_X12_tipOf : GoodIn wsX12_looks (wsV RX12 327 RX12 yX12_tipOf wsX12_tipOf) := goodIn_app (goodIn_of _ (by decide +kernel)) ggX12_looks_X12_tipOf
set_option maxRecDepth 20000 in
theorem ggX12_looks_X12_seen : GoodIn wsX12_looks wsX12_seen := goodIn_r _ [18, 19, 4, 20, 21, 22, 9, 23, 6, 7, 8, 10, 11, 12, 13, 14, 64, 65, 66, 67, 68, 69, 70, 71, 72, 73, 74, 75, 76, 77, 78, 79, 80, 81, 82, 83, 84, 85, 86, 87, 88, 89, 90, 91, 92, 93, 94, 95, 96, 97, 98, 99, 100, 101, 102, 103, 104, 105] rfl (by decide +kernel)
set_option maxRecDepth 20000 in
theorem gX12_looks_X12_seen : GoodIn wsX12_looks (wsV RX12 348 RX12 yX12_seen wsX12_seen) := goodIn_app (goodIn_of _ (by decide +kernel)) ggX12_looks_X12_seen
set_option maxRecDepth 20000 in
theorem ggX12_looks_X12_gap : GoodIn wsX12_looks wsX12_gap := goodIn_r _ [23, 4, 64, 65, 66, 67, 68, 69, 70, 71, 72, 73, 74, 75, 76, 77, 78, 79, 80, 81, 82, 83, 84, 85, 86, 87, 88, 89, 90, 91, 92, 93, 94, 95, 96, 97, 98, 99, 100, 101, 102, 103, 104, 105] rfl (by decide +kernel)
set_option maxRecDepth 20000 in
theorem gX12_looks_X12_gap : GoodIn wsX12_looks (wsV RX12 314 RX12 yX12_gap wsX12_gap) := goodIn_app (goodIn_of _ (by decide +kernel)) ggX12_looks_X12_gap
set_option maxRecDepth 20000 in
theorem ggX12_looks_X12_moreOf : GoodIn wsX12_looks wsX12_moreOf := goodIn_r _ [27, 11, 12, 13, 9, 14, 4, 64, 65, 66, 67, 68, 69, 70, 71, 72, 73, 74, 75, 76, 77, 78, 79, 80, 81, 82, 83, 84, 85, 86, 87, 88, 89, 90, 91, 92, 93, 94, 95, 96, 97, 98, 99, 100, 101, 102, 103, 104, 105] rfl (by decide +kernel)
set_option maxRecDepth 20000 in
theorem gX12_looks_X12_moreOf : GoodIn wsX12_looks (wsV RX12 321 RX12 yX12_moreOf wsX12_moreOf) := goodIn_app (goodIn_of _ (by decide +kernel)) ggX12_looks_X12_moreOf
set_option maxRecDepth 20000 in
theorem ggX12_looks_X12_isAny : GoodIn wsX12_looks wsX12_isAny := goodIn_r _ [31, 32, 33, 34, 35, 36, 9, 37, 38, 39, 40, 41, 42, 43, 5, 44, 45, 46, 47, 48, 49, 50, 51, 52, 53, 54, 55, 64, 65, 66, 67, 68, 69, 70, 71, 72, 73, 74, 75, 76, 77, 78, 79, 80, 81, 82, 83, 84, 85, 86, 87, 88, 89, 90, 91, 92, 93, 94, 95, 96, 97, 98, 99, 100, 101, 102, 103, 104, 105] rfl (by decide +kernel)
set_option maxRecDepth 20000 in
theorem gX12_looks_X12_isAny : GoodIn wsX12_looks (wsV RX12 378 RX12 yX12_isAny wsX12_isAny) := goodIn_app (goodIn_of _ (by decide +kernel)) ggX12_looks_X12_isAny
set_option maxRecDepth 20000 in
theorem ggX12_looks_X12_first : GoodIn wsX12_looks wsX12_first := goodIn_r _ [59, 32, 33, 34, 35, 36, 9, 37, 38, 39, 40, 41, 42, 43, 5, 44, 45, 46, 47, 48, 49, 50, 51, 52, 53, 54, 55, 60, 61, 62, 63, 4, 64, 65, 66, 67, 68, 69, 70, 71, 72, 73, 74, 75, 76, 77, 78, 79, 80, 81, 82, 83, 84, 85, 86, 87, 88, 89, 90, 91, 92, 93, 94, 95, 96, 97, 98, 99, 100, 101, 102, 103, 104, 105] rfl (by decide +kernel)
set_option maxRecDepth 20000 in
theorem gX12_looks_X12_first : GoodIn wsX12_looks (wsV RX12 381 RX12 yX12_first wsX12_first) := goodIn_app (goodIn_of _ (by decide +kernel)) ggX12_looks_X12_first
theorem dX12_looks_0 : decode cX12_looks 0 = .ok (.aload_n 0, 1) := by decide +kernel
theorem dX12_looks_1 : decode cX12_looks 1 = .ok (.getfield 51, 3) := by decide +kernel
theorem dX12_looks_4 : decode cX12_looks 4 = .ok (.iload_n 1, 1) := by decide +kernel
theorem dX12_looks_5 : decode cX12_looks 5 = .ok (.iconst 0, 1) := by decide +kernel
theorem dX12_looks_6 : decode cX12_looks 6 = .ok (.iastore, 1) := by decide +kernel
theorem dX12_looks_7 : decode cX12_looks 7 = .ok (.aload_n 0, 1) := by decide +kernel
theorem dX12_looks_8 : decode cX12_looks 8 = .ok (.getfield 54, 3) := by decide +kernel
theorem dX12_looks_11 : decode cX12_looks 11 = .ok (.iload_n 1, 1) := by decide +kernel
theorem dX12_looks_12 : decode cX12_looks 12 = .ok (.iconst 0, 1) := by decide +kernel
theorem dX12_looks_13 : decode cX12_looks 13 = .ok (.iastore, 1) := by decide +kernel
theorem dX12_looks_14 : decode cX12_looks 14 = .ok (.aload_n 0, 1) := by decide +kernel
theorem dX12_looks_15 : decode cX12_looks 15 = .ok (.getfield 57, 3) := by decide +kernel
theorem dX12_looks_18 : decode cX12_looks 18 = .ok (.iload_n 1, 1) := by decide +kernel
theorem dX12_looks_19 : decode cX12_looks 19 = .ok (.iconst 0, 1) := by decide +kernel
theorem dX12_looks_20 : decode cX12_looks 20 = .ok (.iastore, 1) := by decide +kernel
theorem dX12_looks_21 : decode cX12_looks 21 = .ok (.iload_n 2, 1) := by decide +kernel
theorem dX12_looks_22 : decode cX12_looks 22 = .ok (.ifCond .ge 4, 3) := by decide +kernel
theorem dX12_looks_25 : decode cX12_looks 25 = .ok (.return_, 1) := by decide +kernel
theorem dX12_looks_26 : decode cX12_looks 26 = .ok (.aload_n 0, 1) := by decide +kernel
theorem dX12_looks_27 : decode cX12_looks 27 = .ok (.getfield 45, 3) := by decide +kernel
theorem dX12_looks_30 : decode cX12_looks 30 = .ok (.bipush 6, 2) := by decide +kernel
theorem dX12_looks_32 : decode cX12_looks 32 = .ok (.iload_n 1, 1) := by decide +kernel
theorem dX12_looks_33 : decode cX12_looks 33 = .ok (.iadd, 1) := by decide +kernel
theorem dX12_looks_34 : decode cX12_looks 34 = .ok (.iaload, 1) := by decide +kernel
theorem dX12_looks_35 : decode cX12_looks 35 = .ok (.istore_n 3, 1) := by decide +kernel
theorem dX12_looks_36 : decode cX12_looks 36 = .ok (.aload_n 0, 1) := by decide +kernel
theorem dX12_looks_37 : decode cX12_looks 37 = .ok (.getfield 42, 3) := by decide +kernel
theorem dX12_looks_40 : decode cX12_looks 40 = .ok (.iconst 0, 1) := by decide +kernel
theorem dX12_looks_41 : decode cX12_looks 41 = .ok (.iload_n 1, 1) := by decide +kernel
theorem dX12_looks_42 : decode cX12_looks 42 = .ok (.i2l, 1) := by decide +kernel
theorem dX12_looks_43 : decode cX12_looks 43 = .ok (.lastore, 1) := by decide +kernel
theorem dX12_looks_44 : decode cX12_looks 44 = .ok (.aload_n 0, 1) := by decide +kernel
theorem dX12_looks_45 : decode cX12_looks 45 = .ok (.getfield 42, 3) := by decide +kernel
theorem dX12_looks_48 : decode cX12_looks 48 = .ok (.iconst 1, 1) := by decide +kernel
theorem dX12_looks_49 : decode cX12_looks 49 = .ok (.aload_n 0, 1) := by decide +kernel
theorem dX12_looks_50 : decode cX12_looks 50 = .ok (.iload_n 1, 1) := by decide +kernel
theorem dX12_looks_51 : decode cX12_looks 51 = .ok (.iconst 0, 1) := by decide +kernel
theorem dX12_looks_52 : decode cX12_looks 52 = .ok (.invokevirtual 327, 3) := by decide +kernel
theorem dX12_looks_55 : decode cX12_looks 55 = .ok (.i2l, 1) := by decide +kernel
theorem dX12_looks_56 : decode cX12_looks 56 = .ok (.lastore, 1) := by decide +kernel
theorem dX12_looks_57 : decode cX12_looks 57 = .ok (.aload_n 0, 1) := by decide +kernel
theorem dX12_looks_58 : decode cX12_looks 58 = .ok (.getfield 42, 3) := by decide +kernel
theorem dX12_looks_61 : decode cX12_looks 61 = .ok (.iconst 2, 1) := by decide +kernel
theorem dX12_looks_62 : decode cX12_looks 62 = .ok (.aload_n 0, 1) := by decide +kernel
theorem dX12_looks_63 : decode cX12_looks 63 = .ok (.iload_n 1, 1) := by decide +kernel
theorem dX12_looks_64 : decode cX12_looks 64 = .ok (.iconst 1, 1) := by decide +kernel
theorem dX12_looks_65 : decode cX12_looks 65 = .ok (.invokevirtual 327, 3) := by decide +kernel
theorem dX12_looks_68 : decode cX12_looks 68 = .ok (.i2l, 1) := by decide +kernel
theorem dX12_looks_69 : decode cX12_looks 69 = .ok (.lastore, 1) := by decide +kernel
theorem dX12_looks_70 : decode cX12_looks 70 = .ok (.aload_n 0, 1) := by decide +kernel
theorem dX12_looks_71 : decode cX12_looks 71 = .ok (.getfield 42, 3) := by decide +kernel
theorem dX12_looks_74 : decode cX12_looks 74 = .ok (.iconst 3, 1) := by decide +kernel
theorem dX12_looks_75 : decode cX12_looks 75 = .ok (.aload_n 0, 1) := by decide +kernel
theorem dX12_looks_76 : decode cX12_looks 76 = .ok (.iload_n 1, 1) := by decide +kernel
theorem dX12_looks_77 : decode cX12_looks 77 = .ok (.iconst 0, 1) := by decide +kernel
theorem dX12_looks_78 : decode cX12_looks 78 = .ok (.invokevirtual 348, 3) := by decide +kernel
theorem dX12_looks_81 : decode cX12_looks 81 = .ok (.i2l, 1) := by decide +kernel
theorem dX12_looks_82 : decode cX12_looks 82 = .ok (.lastore, 1) := by decide +kernel
theorem dX12_looks_83 : decode cX12_looks 83 = .ok (.aload_n 0, 1) := by decide +kernel
theorem dX12_looks_84 : decode cX12_looks 84 = .ok (.getfield 42, 3) := by decide +kernel
theorem dX12_looks_87 : decode cX12_looks 87 = .ok (.iconst 4, 1) := by decide +kernel
theorem dX12_looks_88 : decode cX12_looks 88 = .ok (.aload_n 0, 1) := by decide +kernel
theorem dX12_looks_89 : decode cX12_looks 89 = .ok (.iload_n 1, 1) := by decide +kernel
theorem dX12_looks_90 : decode cX12_looks 90 = .ok (.iconst 1, 1) := by decide +kernel
theorem dX12_looks_91 : decode cX12_looks 91 = .ok (.invokevirtual 348, 3) := by decide +kernel
theorem dX12_looks_94 : decode cX12_looks 94 = .ok (.i2l, 1) := by decide +kernel
theorem dX12_looks_95 : decode cX12_looks 95 = .ok (.lastore, 1) := by decide +kernel
theorem dX12_looks_96 : decode cX12_looks 96 = .ok (.aload_n 0, 1) := by decide +kernel
theorem dX12_looks_97 : decode cX12_looks 97 = .ok (.getfield 42, 3) := by decide +kernel
theorem dX12_looks_100 : decode cX12_looks 100 = .ok (.iconst 5, 1) := by decide +kernel
theorem dX12_looks_101 : decode cX12_looks 101 = .ok (.aload_n 0, 1) := by decide +kernel
theorem dX12_looks_102 : decode cX12_looks 102 = .ok (.invokevirtual 314, 3) := by decide +kernel
theorem dX12_looks_105 : decode cX12_looks 105 = .ok (.i2l, 1) := by decide +kernel
theorem dX12_looks_106 : decode cX12_looks 106 = .ok (.lastore, 1) := by decide +kernel
theorem dX12_looks_107 : decode cX12_looks 107 = .ok (.aload_n 0, 1) := by decide +kernel
theorem dX12_looks_108 : decode cX12_looks 108 = .ok (.getfield 42, 3) := by decide +kernel
theorem dX12_looks_111 : decode cX12_looks 111 = .ok (.bipush 6, 2) := by decide +kernel
theorem dX12_looks_113 : decode cX12_looks 113 = .ok (.aload_n 0, 1) := by decide +kernel
theorem dX12_looks_114 : decode cX12_looks 114 = .ok (.getfield 45, 3) := by decide +kernel
theorem dX12_looks_117 : decode cX12_looks 117 = .ok (.iconst 1, 1) := by decide +kernel
theorem dX12_looks_118 : decode cX12_looks 118 = .ok (.iaload, 1) := by decide +kernel
theorem dX12_looks_119 : decode cX12_looks 119 = .ok (.i2l, 1) := by decide +kernel
theorem dX12_looks_120 : decode cX12_looks 120 = .ok (.lastore, 1) := by decide +kernel
theorem dX12_looks_121 : decode cX12_looks 121 = .ok (.aload_n 0, 1) := by decide +kernel
theorem dX12_looks_122 : decode cX12_looks 122 = .ok (.getfield 42, 3) := by decide +kernel
theorem dX12_looks_125 : decode cX12_looks 125 = .ok (.bipush 7, 2) := by decide +kernel
theorem dX12_looks_127 : decode cX12_looks 127 = .ok (.iload_n 3, 1) := by decide +kernel
theorem dX12_looks_128 : decode cX12_looks 128 = .ok (.i2l, 1) := by decide +kernel
theorem dX12_looks_129 : decode cX12_looks 129 = .ok (.lastore, 1) := by decide +kernel
theorem dX12_looks_130 : decode cX12_looks 130 = .ok (.aload_n 0, 1) := by decide +kernel
theorem dX12_looks_131 : decode cX12_looks 131 = .ok (.getfield 42, 3) := by decide +kernel
theorem dX12_looks_134 : decode cX12_looks 134 = .ok (.bipush 8, 2) := by decide +kernel
theorem dX12_looks_136 : decode cX12_looks 136 = .ok (.iload_n 3, 1) := by decide +kernel
theorem dX12_looks_137 : decode cX12_looks 137 = .ok (.ifCond .ne 7, 3) := by decide +kernel
theorem dX12_looks_140 : decode cX12_looks 140 = .ok (.lconst 0, 1) := by decide +kernel
theorem dX12_looks_141 : decode cX12_looks 141 = .ok (.goto 13, 3) := by decide +kernel
theorem dX12_looks_144 : decode cX12_looks 144 = .ok (.aload_n 0, 1) := by decide +kernel
theorem dX12_looks_145 : decode cX12_looks 145 = .ok (.iload_n 1, 1) := by decide +kernel
theorem dX12_looks_146 : decode cX12_looks 146 = .ok (.iload_n 3, 1) := by decide +kernel
theorem dX12_looks_147 : decode cX12_looks 147 = .ok (.iconst 1, 1) := by decide +kernel
theorem dX12_looks_148 : decode cX12_looks 148 = .ok (.isub, 1) := by decide +kernel
theorem dX12_looks_149 : decode cX12_looks 149 = .ok (.iconst 0, 1) := by decide +kernel
theorem dX12_looks_150 : decode cX12_looks 150 = .ok (.invokevirtual 321, 3) := by decide +kernel
theorem dX12_looks_153 : decode cX12_looks 153 = .ok (.i2l, 1) := by decide +kernel
theorem dX12_looks_154 : decode cX12_looks 154 = .ok (.lastore, 1) := by decide +kernel
theorem dX12_looks_155 : decode cX12_looks 155 = .ok (.aload_n 0, 1) := by decide +kernel
theorem dX12_looks_156 : decode cX12_looks 156 = .ok (.iload_n 2, 1) := by decide +kernel
theorem dX12_looks_157 : decode cX12_looks 157 = .ok (.iconst 3, 1) := by decide +kernel
theorem dX12_looks_158 : decode cX12_looks 158 = .ok (.invokevirtual 378, 3) := by decide +kernel
theorem dX12_looks_161 : decode cX12_looks 161 = .ok (.ifCond .eq 13, 3) := by decide +kernel
theorem dX12_looks_164 : decode cX12_looks 164 = .ok (.aload_n 0, 1) := by decide +kernel
theorem dX12_looks_165 : decode cX12_looks 165 = .ok (.getfield 51, 3) := by decide +kernel
theorem dX12_looks_168 : decode cX12_looks 168 = .ok (.iload_n 1, 1) := by decide +kernel
theorem dX12_looks_169 : decode cX12_looks 169 = .ok (.iconst 2, 1) := by decide +kernel
theorem dX12_looks_170 : decode cX12_looks 170 = .ok (.iastore, 1) := by decide +kernel
theorem dX12_looks_171 : decode cX12_looks 171 = .ok (.goto 46, 3) := by decide +kernel
theorem dX12_looks_174 : decode cX12_looks 174 = .ok (.aload_n 0, 1) := by decide +kernel
theorem dX12_looks_175 : decode cX12_looks 175 = .ok (.iload_n 2, 1) := by decide +kernel
theorem dX12_looks_176 : decode cX12_looks 176 = .ok (.iconst 2, 1) := by decide +kernel
theorem dX12_looks_177 : decode cX12_looks 177 = .ok (.invokevirtual 378, 3) := by decide +kernel
theorem dX12_looks_180 : decode cX12_looks 180 = .ok (.ifCond .eq 13, 3) := by decide +kernel
theorem dX12_looks_183 : decode cX12_looks 183 = .ok (.aload_n 0, 1) := by decide +kernel
theorem dX12_looks_184 : decode cX12_looks 184 = .ok (.getfield 51, 3) := by decide +kernel
theorem dX12_looks_187 : decode cX12_looks 187 = .ok (.iload_n 1, 1) := by decide +kernel
theorem dX12_looks_188 : decode cX12_looks 188 = .ok (.iconst 1, 1) := by decide +kernel
theorem dX12_looks_189 : decode cX12_looks 189 = .ok (.iastore, 1) := by decide +kernel
theorem dX12_looks_190 : decode cX12_looks 190 = .ok (.goto 27, 3) := by decide +kernel
theorem dX12_looks_193 : decode cX12_looks 193 = .ok (.aload_n 0, 1) := by decide +kernel
theorem dX12_looks_194 : decode cX12_looks 194 = .ok (.getfield 54, 3) := by decide +kernel
theorem dX12_looks_197 : decode cX12_looks 197 = .ok (.iload_n 1, 1) := by decide +kernel
theorem dX12_looks_198 : decode cX12_looks 198 = .ok (.aload_n 0, 1) := by decide +kernel
theorem dX12_looks_199 : decode cX12_looks 199 = .ok (.iload_n 2, 1) := by decide +kernel
theorem dX12_looks_200 : decode cX12_looks 200 = .ok (.iconst 0, 1) := by decide +kernel
theorem dX12_looks_201 : decode cX12_looks 201 = .ok (.invokevirtual 381, 3) := by decide +kernel
theorem dX12_looks_204 : decode cX12_looks 204 = .ok (.iastore, 1) := by decide +kernel
theorem dX12_looks_205 : decode cX12_looks 205 = .ok (.aload_n 0, 1) := by decide +kernel
theorem dX12_looks_206 : decode cX12_looks 206 = .ok (.getfield 57, 3) := by decide +kernel
theorem dX12_looks_209 : decode cX12_looks 209 = .ok (.iload_n 1, 1) := by decide +kernel
theorem dX12_looks_210 : decode cX12_looks 210 = .ok (.aload_n 0, 1) := by decide +kernel
theorem dX12_looks_211 : decode cX12_looks 211 = .ok (.iload_n 2, 1) := by decide +kernel
theorem dX12_looks_212 : decode cX12_looks 212 = .ok (.iconst 1, 1) := by decide +kernel
theorem dX12_looks_213 : decode cX12_looks 213 = .ok (.invokevirtual 381, 3) := by decide +kernel
theorem dX12_looks_216 : decode cX12_looks 216 = .ok (.iastore, 1) := by decide +kernel
theorem dX12_looks_217 : decode cX12_looks 217 = .ok (.return_, 1) := by decide +kernel
set_option maxRecDepth 20000 in
theorem ggX12_acts_X12_takesYards : GoodIn wsX12_acts wsX12_takesYards := goodIn_r _ [8, 9, 10, 11, 7, 12, 29, 30, 31, 32, 33, 34, 35, 36, 37, 38, 39, 40, 41, 42, 43, 44, 45, 46, 47, 48, 49, 50, 51, 52, 53, 54, 55, 56, 57, 58, 59, 60, 61, 62, 63, 64, 65, 66, 67, 68, 69, 70] rfl (by decide +kernel)
set_option maxRecDepth 20000 in
theorem gX12_acts_X12_takesYards : GoodIn wsX12_acts (wsV RX12 364 RX12 yX12_takesYards wsX12_takesYards) := goodIn_app (goodIn_of _ (by decide +kernel)) ggX12_acts_X12_takesYards
set_option maxRecDepth 20000 in
theorem ggX12_acts_X12_gap : GoodIn wsX12_acts wsX12_gap := goodIn_r _ [16, 9, 29, 30, 31, 32, 33, 34, 35, 36, 37, 38, 39, 40, 41, 42, 43, 44, 45, 46, 47, 48, 49, 50, 51, 52, 53, 54, 55, 56, 57, 58, 59, 60, 61, 62, 63, 64, 65, 66, 67, 68, 69, 70] rfl (by decide +kernel)
set_option maxRecDepth 20000 in
theorem gX12_acts_X12_gap : GoodIn wsX12_acts (wsV RX12 314 RX12 yX12_gap wsX12_gap) := goodIn_app (goodIn_of _ (by decide +kernel)) ggX12_acts_X12_gap
set_option maxRecDepth 20000 in
theorem ggX12_acts_X12_builds : GoodIn wsX12_acts wsX12_builds := goodIn_r _ [20, 9, 21, 22, 23, 7, 24, 25, 26, 27, 28, 29, 30, 31, 32, 33, 34, 35, 36, 37, 38, 39, 40, 41, 42, 43, 44, 45, 46, 47, 48, 49, 50, 51, 52, 53, 54, 55, 56, 57, 58, 59, 60, 61, 62, 63, 64, 65, 66, 67, 68, 69, 70] rfl (by decide +kernel)
set_option maxRecDepth 20000 in
theorem gX12_acts_X12_builds : GoodIn wsX12_acts (wsV RX12 360 RX12 yX12_builds wsX12_builds) := goodIn_app (goodIn_of _ (by decide +kernel)) ggX12_acts_X12_builds
theorem dX12_acts_0 : decode cX12_acts 0 = .ok (.aload_n 0, 1) := by decide +kernel
theorem dX12_acts_1 : decode cX12_acts 1 = .ok (.getfield 51, 3) := by decide +kernel
theorem dX12_acts_4 : decode cX12_acts 4 = .ok (.iload_n 1, 1) := by decide +kernel
theorem dX12_acts_5 : decode cX12_acts 5 = .ok (.iaload, 1) := by decide +kernel
theorem dX12_acts_6 : decode cX12_acts 6 = .ok (.iconst 2, 1) := by decide +kernel
theorem dX12_acts_7 : decode cX12_acts 7 = .ok (.if_icmp .ne 12, 3) := by decide +kernel
theorem dX12_acts_10 : decode cX12_acts 10 = .ok (.aload_n 0, 1) := by decide +kernel
theorem dX12_acts_11 : decode cX12_acts 11 = .ok (.iload_n 1, 1) := by decide +kernel
theorem dX12_acts_12 : decode cX12_acts 12 = .ok (.iconst 1, 1) := by decide +kernel
theorem dX12_acts_13 : decode cX12_acts 13 = .ok (.invokevirtual 364, 3) := by decide +kernel
theorem dX12_acts_16 : decode cX12_acts 16 = .ok (.goto 36, 3) := by decide +kernel
theorem dX12_acts_19 : decode cX12_acts 19 = .ok (.aload_n 0, 1) := by decide +kernel
theorem dX12_acts_20 : decode cX12_acts 20 = .ok (.getfield 51, 3) := by decide +kernel
theorem dX12_acts_23 : decode cX12_acts 23 = .ok (.iload_n 1, 1) := by decide +kernel
theorem dX12_acts_24 : decode cX12_acts 24 = .ok (.iaload, 1) := by decide +kernel
theorem dX12_acts_25 : decode cX12_acts 25 = .ok (.ifCond .ne 27, 3) := by decide +kernel
theorem dX12_acts_28 : decode cX12_acts 28 = .ok (.aload_n 0, 1) := by decide +kernel
theorem dX12_acts_29 : decode cX12_acts 29 = .ok (.invokevirtual 314, 3) := by decide +kernel
theorem dX12_acts_32 : decode cX12_acts 32 = .ok (.ifCond .le 20, 3) := by decide +kernel
theorem dX12_acts_35 : decode cX12_acts 35 = .ok (.aload_n 0, 1) := by decide +kernel
theorem dX12_acts_36 : decode cX12_acts 36 = .ok (.iload_n 1, 1) := by decide +kernel
theorem dX12_acts_37 : decode cX12_acts 37 = .ok (.aload_n 0, 1) := by decide +kernel
theorem dX12_acts_38 : decode cX12_acts 38 = .ok (.getfield 54, 3) := by decide +kernel
theorem dX12_acts_41 : decode cX12_acts 41 = .ok (.iload_n 1, 1) := by decide +kernel
theorem dX12_acts_42 : decode cX12_acts 42 = .ok (.iaload, 1) := by decide +kernel
theorem dX12_acts_43 : decode cX12_acts 43 = .ok (.aload_n 0, 1) := by decide +kernel
theorem dX12_acts_44 : decode cX12_acts 44 = .ok (.getfield 57, 3) := by decide +kernel
theorem dX12_acts_47 : decode cX12_acts 47 = .ok (.iload_n 1, 1) := by decide +kernel
theorem dX12_acts_48 : decode cX12_acts 48 = .ok (.iaload, 1) := by decide +kernel
theorem dX12_acts_49 : decode cX12_acts 49 = .ok (.invokevirtual 360, 3) := by decide +kernel
theorem dX12_acts_52 : decode cX12_acts 52 = .ok (.return_, 1) := by decide +kernel
set_option maxRecDepth 20000 in
theorem ggX12_floods_X12_takesYards : GoodIn wsX12_floods wsX12_takesYards := goodIn_r _ [6, 1, 7, 8, 5, 9, 10, 11, 12, 13, 14, 15, 16, 17, 18, 19, 20, 21, 22, 23, 24, 25, 26, 27, 28, 29, 30, 31, 32, 33, 34, 35, 36, 37, 38, 39, 40, 41, 42, 43, 44, 45, 46, 47, 48, 49, 50, 51] rfl (by decide +kernel)
set_option maxRecDepth 20000 in
theorem gX12_floods_X12_takesYards : GoodIn wsX12_floods (wsV RX12 364 RX12 yX12_takesYards wsX12_takesYards) := goodIn_app (goodIn_of _ (by decide +kernel)) ggX12_floods_X12_takesYards
theorem dX12_floods_0 : decode cX12_floods 0 = .ok (.iconst 0, 1) := by decide +kernel
theorem dX12_floods_1 : decode cX12_floods 1 = .ok (.istore_n 1, 1) := by decide +kernel
theorem dX12_floods_2 : decode cX12_floods 2 = .ok (.iload_n 1, 1) := by decide +kernel
theorem dX12_floods_3 : decode cX12_floods 3 = .ok (.aload_n 0, 1) := by decide +kernel
theorem dX12_floods_4 : decode cX12_floods 4 = .ok (.getfield 45, 3) := by decide +kernel
theorem dX12_floods_7 : decode cX12_floods 7 = .ok (.iconst 4, 1) := by decide +kernel
theorem dX12_floods_8 : decode cX12_floods 8 = .ok (.iaload, 1) := by decide +kernel
theorem dX12_floods_9 : decode cX12_floods 9 = .ok (.if_icmp .ge 63, 3) := by decide +kernel
theorem dX12_floods_12 : decode cX12_floods 12 = .ok (.aload_n 0, 1) := by decide +kernel
theorem dX12_floods_13 : decode cX12_floods 13 = .ok (.getfield 45, 3) := by decide +kernel
theorem dX12_floods_16 : decode cX12_floods 16 = .ok (.bipush 14, 2) := by decide +kernel
theorem dX12_floods_18 : decode cX12_floods 18 = .ok (.iconst 2, 1) := by decide +kernel
theorem dX12_floods_19 : decode cX12_floods 19 = .ok (.iload_n 1, 1) := by decide +kernel
theorem dX12_floods_20 : decode cX12_floods 20 = .ok (.imul, 1) := by decide +kernel
theorem dX12_floods_21 : decode cX12_floods 21 = .ok (.iadd, 1) := by decide +kernel
theorem dX12_floods_22 : decode cX12_floods 22 = .ok (.iaload, 1) := by decide +kernel
theorem dX12_floods_23 : decode cX12_floods 23 = .ok (.aload_n 0, 1) := by decide +kernel
theorem dX12_floods_24 : decode cX12_floods 24 = .ok (.getfield 45, 3) := by decide +kernel
theorem dX12_floods_27 : decode cX12_floods 27 = .ok (.iconst 1, 1) := by decide +kernel
theorem dX12_floods_28 : decode cX12_floods 28 = .ok (.iaload, 1) := by decide +kernel
theorem dX12_floods_29 : decode cX12_floods 29 = .ok (.if_icmp .eq 6, 3) := by decide +kernel
theorem dX12_floods_32 : decode cX12_floods 32 = .ok (.goto 34, 3) := by decide +kernel
theorem dX12_floods_35 : decode cX12_floods 35 = .ok (.iconst 0, 1) := by decide +kernel
theorem dX12_floods_36 : decode cX12_floods 36 = .ok (.istore_n 2, 1) := by decide +kernel
theorem dX12_floods_37 : decode cX12_floods 37 = .ok (.iload_n 2, 1) := by decide +kernel
theorem dX12_floods_38 : decode cX12_floods 38 = .ok (.iconst 2, 1) := by decide +kernel
theorem dX12_floods_39 : decode cX12_floods 39 = .ok (.if_icmp .ge 27, 3) := by decide +kernel
theorem dX12_floods_42 : decode cX12_floods 42 = .ok (.aload_n 0, 1) := by decide +kernel
theorem dX12_floods_43 : decode cX12_floods 43 = .ok (.iload_n 2, 1) := by decide +kernel
theorem dX12_floods_44 : decode cX12_floods 44 = .ok (.aload_n 0, 1) := by decide +kernel
theorem dX12_floods_45 : decode cX12_floods 45 = .ok (.getfield 45, 3) := by decide +kernel
theorem dX12_floods_48 : decode cX12_floods 48 = .ok (.bipush 14, 2) := by decide +kernel
theorem dX12_floods_50 : decode cX12_floods 50 = .ok (.iconst 2, 1) := by decide +kernel
theorem dX12_floods_51 : decode cX12_floods 51 = .ok (.iload_n 1, 1) := by decide +kernel
theorem dX12_floods_52 : decode cX12_floods 52 = .ok (.imul, 1) := by decide +kernel
theorem dX12_floods_53 : decode cX12_floods 53 = .ok (.iadd, 1) := by decide +kernel
theorem dX12_floods_54 : decode cX12_floods 54 = .ok (.iconst 1, 1) := by decide +kernel
theorem dX12_floods_55 : decode cX12_floods 55 = .ok (.iadd, 1) := by decide +kernel
theorem dX12_floods_56 : decode cX12_floods 56 = .ok (.iaload, 1) := by decide +kernel
theorem dX12_floods_57 : decode cX12_floods 57 = .ok (.invokevirtual 364, 3) := by decide +kernel
theorem dX12_floods_60 : decode cX12_floods 60 = .ok (.iinc 2 1, 3) := by decide +kernel
theorem dX12_floods_63 : decode cX12_floods 63 = .ok (.goto (-26), 3) := by decide +kernel
theorem dX12_floods_66 : decode cX12_floods 66 = .ok (.iinc 1 1, 3) := by decide +kernel
theorem dX12_floods_69 : decode cX12_floods 69 = .ok (.goto (-67), 3) := by decide +kernel
theorem dX12_floods_72 : decode cX12_floods 72 = .ok (.return_, 1) := by decide +kernel
set_option maxRecDepth 20000 in
theorem ggX12_passes_X12_looks : GoodIn wsX12_passes wsX12_looks := goodIn_r _ [6, 7, 8, 9, 1, 10, 11, 12, 13, 5, 14, 15, 16, 17, 18, 19, 20, 21, 22, 23, 24, 25, 26, 27, 28, 29, 30, 31, 32, 33, 34, 35, 36, 37, 38, 39, 40, 41, 42, 43, 44, 45, 46, 47, 48, 49, 50, 51, 52, 53, 54, 55, 56, 57, 58, 59, 60, 61, 62, 63, 64, 65, 66, 67, 87, 88, 89, 90, 91, 92, 93, 94, 95, 96, 97, 98, 99, 100, 101, 102, 103, 104, 105, 106, 107, 108, 109, 110, 111, 112, 113, 114, 115, 116, 117, 118, 119, 120, 121, 122, 123, 124, 125, 126, 127, 128] rfl (by decide +kernel)
set_option maxRecDepth 20000 in
theorem gX12_passes_X12_looks : GoodIn wsX12_passes (wsV RX12 384 RX12 yX12_looks wsX12_looks) := goodIn_app (goodIn_of _ (by decide +kernel)) ggX12_passes_X12_looks
set_option maxRecDepth 20000 in
theorem ggX12_passes_X12_acts : GoodIn wsX12_passes wsX12_acts := goodIn_r _ [71, 7, 8, 9, 72, 73, 74, 5, 75, 1, 76, 77, 78, 24, 25, 26, 27, 79, 80, 81, 82, 11, 12, 13, 14, 15, 16, 17, 18, 87, 88, 89, 90, 91, 92, 93, 94, 95, 96, 97, 98, 99, 100, 101, 102, 103, 104, 105, 106, 107, 108, 109, 110, 111, 112, 113, 114, 115, 116, 117, 118, 119, 120, 121, 122, 123, 124, 125, 126, 127, 128] rfl (by decide +kernel)
set_option maxRecDepth 20000 in
theorem gX12_passes_X12_acts : GoodIn wsX12_passes (wsV RX12 387 RX12 yX12_acts wsX12_acts) := goodIn_app (goodIn_of _ (by decide +kernel)) ggX12_passes_X12_acts
set_option maxRecDepth 20000 in
theorem ggX12_passes_X12_floods : GoodIn wsX12_passes wsX12_floods := goodIn_r _ [86, 1, 72, 73, 74, 5, 75, 76, 77, 78, 87, 88, 89, 90, 91, 92, 93, 94, 95, 96, 97, 98, 99, 100, 101, 102, 103, 104, 105, 106, 107, 108, 109, 110, 111, 112, 113, 114, 115, 116, 117, 118, 119, 120, 121, 122, 123, 124, 125, 126, 127, 128] rfl (by decide +kernel)
set_option maxRecDepth 20000 in
theorem gX12_passes_X12_floods : GoodIn wsX12_passes (wsV RX12 390 RX12 yX12_floods wsX12_floods) := goodIn_app (goodIn_of _ (by decide +kernel)) ggX12_passes_X12_floods
theorem dX12_passes_0 : decode cX12_passes 0 = .ok (.aload_n 0, 1) := by decide +kernel
theorem dX12_passes_1 : decode cX12_passes 1 = .ok (.iconst 0, 1) := by decide +kernel
theorem dX12_passes_2 : decode cX12_passes 2 = .ok (.iload_n 1, 1) := by decide +kernel
theorem dX12_passes_3 : decode cX12_passes 3 = .ok (.invokevirtual 384, 3) := by decide +kernel
theorem dX12_passes_6 : decode cX12_passes 6 = .ok (.aload_n 0, 1) := by decide +kernel
theorem dX12_passes_7 : decode cX12_passes 7 = .ok (.iconst 1, 1) := by decide +kernel
theorem dX12_passes_8 : decode cX12_passes 8 = .ok (.iload_n 2, 1) := by decide +kernel
theorem dX12_passes_9 : decode cX12_passes 9 = .ok (.invokevirtual 384, 3) := by decide +kernel
theorem dX12_passes_12 : decode cX12_passes 12 = .ok (.aload_n 0, 1) := by decide +kernel
theorem dX12_passes_13 : decode cX12_passes 13 = .ok (.iconst 0, 1) := by decide +kernel
theorem dX12_passes_14 : decode cX12_passes 14 = .ok (.invokevirtual 387, 3) := by decide +kernel
theorem dX12_passes_17 : decode cX12_passes 17 = .ok (.aload_n 0, 1) := by decide +kernel
theorem dX12_passes_18 : decode cX12_passes 18 = .ok (.iconst 1, 1) := by decide +kernel
theorem dX12_passes_19 : decode cX12_passes 19 = .ok (.invokevirtual 387, 3) := by decide +kernel
theorem dX12_passes_22 : decode cX12_passes 22 = .ok (.aload_n 0, 1) := by decide +kernel
theorem dX12_passes_23 : decode cX12_passes 23 = .ok (.invokevirtual 390, 3) := by decide +kernel
theorem dX12_passes_26 : decode cX12_passes 26 = .ok (.aload_n 0, 1) := by decide +kernel
theorem dX12_passes_27 : decode cX12_passes 27 = .ok (.getfield 45, 3) := by decide +kernel
theorem dX12_passes_30 : decode cX12_passes 30 = .ok (.iconst 1, 1) := by decide +kernel
theorem dX12_passes_31 : decode cX12_passes 31 = .ok (.dup2, 1) := by decide +kernel
theorem dX12_passes_32 : decode cX12_passes 32 = .ok (.iaload, 1) := by decide +kernel
theorem dX12_passes_33 : decode cX12_passes 33 = .ok (.iconst 1, 1) := by decide +kernel
theorem dX12_passes_34 : decode cX12_passes 34 = .ok (.iadd, 1) := by decide +kernel
theorem dX12_passes_35 : decode cX12_passes 35 = .ok (.iastore, 1) := by decide +kernel
theorem dX12_passes_36 : decode cX12_passes 36 = .ok (.return_, 1) := by decide +kernel
set_option maxRecDepth 20000 in
theorem ggX12_springs_X12_isMet : GoodIn wsX12_springs wsX12_isMet := goodIn_r _ [5, 6, 7, 8, 4, 9, 10, 99, 100, 101, 102, 103, 104, 105, 106, 107, 108, 109, 110, 111, 112, 113, 114, 115, 116, 117, 118, 119, 120, 121, 122, 123, 124, 125, 126, 127, 128, 129, 130, 131, 132, 133, 134, 135, 136, 137, 138, 139, 140] rfl (by decide +kernel)
set_option maxRecDepth 20000 in
theorem gX12_springs_X12_isMet : GoodIn wsX12_springs (wsV RX12 393 RX12 yX12_isMet wsX12_isMet) := goodIn_app (goodIn_of _ (by decide +kernel)) ggX12_springs_X12_isMet
set_option maxRecDepth 20000 in
theorem ggX12_springs_X12_errsAsTold : GoodIn wsX12_springs wsX12_errsAsTold := goodIn_r _ [14, 15, 10, 99, 100, 101, 102, 103, 104, 105, 106, 107, 108, 109, 110, 111, 112, 113, 114, 115, 116, 117, 118, 119, 120, 121, 122, 123, 124, 125, 126, 127, 128, 129, 130, 131, 132, 133, 134, 135, 136, 137, 138, 139, 140] rfl (by decide +kernel)
set_option maxRecDepth 20000 in
theorem gX12_springs_X12_errsAsTold : GoodIn wsX12_springs (wsV RX12 345 RX12 yX12_errsAsTold wsX12_errsAsTold) := goodIn_app (goodIn_of _ (by decide +kernel)) ggX12_springs_X12_errsAsTold
set_option maxRecDepth 20000 in
theorem ggX12_springs_X12_passes : GoodIn wsX12_springs wsX12_passes := goodIn_r _ [19, 10, 20, 21, 22, 4, 23, 24, 25, 26, 27, 28, 29, 30, 31, 32, 33, 34, 35, 36, 37, 38, 39, 15, 6, 7, 8, 9, 40, 41, 42, 43, 44, 45, 46, 47, 48, 49, 50, 51, 52, 53, 54, 55, 56, 57, 58, 59, 60, 61, 62, 63, 64, 65, 66, 67, 68, 69, 70, 71, 72, 73, 74, 75, 76, 77, 78, 79, 80, 81, 82, 83, 84, 85, 86, 87, 88, 89, 90, 91, 92, 93, 94, 95, 96, 97, 98, 99, 100, 101, 102, 103, 104, 105, 106, 107, 108, 109, 110, 111, 112, 113, 114, 115, 116, 117, 118, 119, 120, 121, 122, 123, 124, 125, 126, 127, 128, 129, 130, 131, 132, 133, 134, 135, 136, 137, 138, 139, 140] rfl (by decide +kernel)
set_option maxRecDepth 20000 in
theorem gX12_springs_X12_passes : GoodIn wsX12_springs (wsV RX12 396 RX12 yX12_passes wsX12_passes) := goodIn_app (goodIn_of _ (by decide +kernel)) ggX12_springs_X12_passes
theorem dX12_springs_0 : decode cX12_springs 0 = .ok (.iconst 0, 1) := by decide +kernel
theorem dX12_springs_1 : decode cX12_springs 1 = .ok (.istore 4, 2) := by decide +kernel
theorem dX12_springs_3 : decode cX12_springs 3 = .ok (.iload 4, 2) := by decide +kernel
theorem dX12_springs_5 : decode cX12_springs 5 = .ok (.iload_n 3, 1) := by decide +kernel
theorem dX12_springs_6 : decode cX12_springs 6 = .ok (.if_icmp .ge 26, 3) := by decide +kernel
theorem dX12_springs_9 : decode cX12_springs 9 = .ok (.aload_n 0, 1) := by decide +kernel
theorem dX12_springs_10 : decode cX12_springs 10 = .ok (.invokevirtual 393, 3) := by decide +kernel
theorem dX12_springs_13 : decode cX12_springs 13 = .ok (.ifCond .ne 19, 3) := by decide +kernel
theorem dX12_springs_16 : decode cX12_springs 16 = .ok (.aload_n 0, 1) := by decide +kernel
theorem dX12_springs_17 : decode cX12_springs 17 = .ok (.invokevirtual 345, 3) := by decide +kernel
theorem dX12_springs_20 : decode cX12_springs 20 = .ok (.aload_n 0, 1) := by decide +kernel
theorem dX12_springs_21 : decode cX12_springs 21 = .ok (.iload_n 1, 1) := by decide +kernel
theorem dX12_springs_22 : decode cX12_springs 22 = .ok (.iload_n 2, 1) := by decide +kernel
theorem dX12_springs_23 : decode cX12_springs 23 = .ok (.invokevirtual 396, 3) := by decide +kernel
theorem dX12_springs_26 : decode cX12_springs 26 = .ok (.iinc 4 1, 3) := by decide +kernel
theorem dX12_springs_29 : decode cX12_springs 29 = .ok (.goto (-26), 3) := by decide +kernel
theorem dX12_springs_32 : decode cX12_springs 32 = .ok (.return_, 1) := by decide +kernel
set_option maxRecDepth 20000 in
theorem ggX12_canAsk_X12_isRiver : GoodIn wsX12_canAsk wsX12_isRiver := goodIn_r _ [5, 6, 12, 13, 14, 15, 16, 17, 18, 19, 20, 21, 22, 23, 24, 25, 26, 27, 28, 29, 30, 31, 32, 33, 34, 35, 36, 37, 38, 39, 40, 41, 42, 43, 44, 45, 46, 47, 48, 49, 50, 51, 52, 53] rfl (by decide +kernel)
set_option maxRecDepth 20000 in
theorem gX12_canAsk_X12_isRiver : GoodIn wsX12_canAsk (wsV RX12 331 RX12 yX12_isRiver wsX12_isRiver) := goodIn_app (goodIn_of _ (by decide +kernel)) ggX12_canAsk_X12_isRiver
set_option maxRecDepth 20000 in
theorem ggX12_canAsk_X12_isRule : GoodIn wsX12_canAsk wsX12_isRule := goodIn_r _ [10, 11, 12, 13, 14, 15, 16, 17, 18, 19, 20, 21, 22, 23, 24, 25, 26, 27, 28, 29, 30, 31, 32, 33, 34, 35, 36, 37, 38, 39, 40, 41, 42, 43, 44, 45, 46, 47, 48, 49, 50, 51, 52, 53] rfl (by decide +kernel)
set_option maxRecDepth 20000 in
theorem gX12_canAsk_X12_isRule : GoodIn wsX12_canAsk (wsV RX12 399 RX12 yX12_isRule wsX12_isRule) := goodIn_app (goodIn_of _ (by decide +kernel)) ggX12_canAsk_X12_isRule
theorem dX12_canAsk_0 : decode cX12_canAsk 0 = .ok (.aload_n 0, 1) := by decide +kernel
theorem dX12_canAsk_1 : decode cX12_canAsk 1 = .ok (.invokevirtual 331, 3) := by decide +kernel
theorem dX12_canAsk_4 : decode cX12_canAsk 4 = .ok (.ifCond .eq 23, 3) := by decide +kernel
theorem dX12_canAsk_7 : decode cX12_canAsk 7 = .ok (.aload_n 0, 1) := by decide +kernel
theorem dX12_canAsk_8 : decode cX12_canAsk 8 = .ok (.iload_n 1, 1) := by decide +kernel
theorem dX12_canAsk_9 : decode cX12_canAsk 9 = .ok (.invokevirtual 399, 3) := by decide +kernel
theorem dX12_canAsk_12 : decode cX12_canAsk 12 = .ok (.ifCond .eq 15, 3) := by decide +kernel
theorem dX12_canAsk_15 : decode cX12_canAsk 15 = .ok (.aload_n 0, 1) := by decide +kernel
theorem dX12_canAsk_16 : decode cX12_canAsk 16 = .ok (.iload_n 2, 1) := by decide +kernel
theorem dX12_canAsk_17 : decode cX12_canAsk 17 = .ok (.invokevirtual 399, 3) := by decide +kernel
theorem dX12_canAsk_20 : decode cX12_canAsk 20 = .ok (.ifCond .eq 7, 3) := by decide +kernel
theorem dX12_canAsk_23 : decode cX12_canAsk 23 = .ok (.iconst 1, 1) := by decide +kernel
theorem dX12_canAsk_24 : decode cX12_canAsk 24 = .ok (.goto 4, 3) := by decide +kernel
theorem dX12_canAsk_27 : decode cX12_canAsk 27 = .ok (.iconst 0, 1) := by decide +kernel
theorem dX12_canAsk_28 : decode cX12_canAsk 28 = .ok (.ireturn, 1) := by decide +kernel
set_option maxRecDepth 20000 in
theorem ggX12_spring_X12_canAsk : GoodIn wsX12_spring wsX12_canAsk := goodIn_r _ [7, 8, 9, 10, 6, 11, 2, 12, 13, 14, 15, 16, 120, 121, 122, 123, 124, 125, 126, 127, 128, 129, 130, 131, 132, 133, 134, 135, 136, 137, 138, 139, 140, 141, 142, 143, 144, 145, 146, 147, 148, 149, 150, 151, 152, 153, 154, 155, 156, 157, 158, 159, 160, 161] rfl (by decide +kernel)
set_option maxRecDepth 20000 in
theorem gX12_spring_X12_canAsk : GoodIn wsX12_spring (wsV RX12 402 RX12 yX12_canAsk wsX12_canAsk) := goodIn_app (goodIn_of _ (by decide +kernel)) ggX12_spring_X12_canAsk
set_option maxRecDepth 20000 in
theorem ggX12_spring_X12_in : GoodIn wsX12_spring wsX12_in := goodIn_r _ [19] rfl (by decide +kernel)
set_option maxRecDepth 20000 in
theorem gX12_spring_X12_in : GoodIn wsX12_spring (va_wsS RX12 131 yX12_in wsX12_in) := goodIn_app (goodIn_of _ (by decide +kernel)) ggX12_spring_X12_in
set_option maxRecDepth 20000 in
theorem ggX12_spring_X12_springs : GoodIn wsX12_spring wsX12_springs := goodIn_r _ [23, 24, 25, 26, 6, 27, 28, 29, 30, 31, 2, 32, 33, 34, 35, 36, 37, 38, 39, 40, 41, 42, 43, 44, 45, 46, 47, 48, 49, 50, 51, 52, 53, 54, 55, 56, 57, 58, 59, 60, 61, 62, 63, 64, 65, 66, 67, 68, 69, 70, 71, 72, 73, 74, 75, 76, 77, 78, 79, 80, 81, 82, 83, 84, 85, 86, 87, 88, 89, 90, 91, 92, 93, 94, 95, 96, 97, 98, 99, 100, 101, 102, 103, 104, 105, 106, 107, 108, 109, 110, 111, 112, 113, 114, 115, 116, 117, 118, 119, 120, 121, 122, 123, 124, 125, 126, 127, 128, 129, 130, 131, 132, 133, 134, 135, 136, 137, 138, 139, 140, 141, 142, 143, 144, 145, 146, 147, 148, 149, 150, 151, 152, 153, 154, 155, 156, 157, 158, 159, 160, 161] rfl (by decide +kernel)
set_option maxRecDepth 20000 in
theorem gX12_spring_X12_springs : GoodIn wsX12_spring (wsV RX12 407 RX12 yX12_springs wsX12_springs) := goodIn_app (goodIn_of _ (by decide +kernel)) ggX12_spring_X12_springs
theorem dX12_spring_0 : decode cX12_spring 0 = .ok (.aload_n 0, 1) := by decide +kernel
theorem dX12_spring_1 : decode cX12_spring 1 = .ok (.iload_n 1, 1) := by decide +kernel
theorem dX12_spring_2 : decode cX12_spring 2 = .ok (.iload_n 2, 1) := by decide +kernel
theorem dX12_spring_3 : decode cX12_spring 3 = .ok (.invokevirtual 402, 3) := by decide +kernel
theorem dX12_spring_6 : decode cX12_spring 6 = .ok (.ifCond .eq 29, 3) := by decide +kernel
theorem dX12_spring_9 : decode cX12_spring 9 = .ok (.iload_n 3, 1) := by decide +kernel
theorem dX12_spring_10 : decode cX12_spring 10 = .ok (.i2l, 1) := by decide +kernel
theorem dX12_spring_11 : decode cX12_spring 11 = .ok (.lconst 1, 1) := by decide +kernel
theorem dX12_spring_12 : decode cX12_spring 12 = .ok (.ldc2_w 405, 3) := by decide +kernel
theorem dX12_spring_15 : decode cX12_spring 15 = .ok (.invokestatic 131, 3) := by decide +kernel
theorem dX12_spring_18 : decode cX12_spring 18 = .ok (.ifCond .eq 17, 3) := by decide +kernel
theorem dX12_spring_21 : decode cX12_spring 21 = .ok (.aload_n 0, 1) := by decide +kernel
theorem dX12_spring_22 : decode cX12_spring 22 = .ok (.getfield 45, 3) := by decide +kernel
theorem dX12_spring_25 : decode cX12_spring 25 = .ok (.iconst 1, 1) := by decide +kernel
theorem dX12_spring_26 : decode cX12_spring 26 = .ok (.iaload, 1) := by decide +kernel
theorem dX12_spring_27 : decode cX12_spring 27 = .ok (.iload_n 3, 1) := by decide +kernel
theorem dX12_spring_28 : decode cX12_spring 28 = .ok (.iadd, 1) := by decide +kernel
theorem dX12_spring_29 : decode cX12_spring 29 = .ok (.sipush 9999, 3) := by decide +kernel
theorem dX12_spring_32 : decode cX12_spring 32 = .ok (.if_icmp .le 5, 3) := by decide +kernel
theorem dX12_spring_35 : decode cX12_spring 35 = .ok (.iconst (-1), 1) := by decide +kernel
theorem dX12_spring_36 : decode cX12_spring 36 = .ok (.ireturn, 1) := by decide +kernel
theorem dX12_spring_37 : decode cX12_spring 37 = .ok (.aload_n 0, 1) := by decide +kernel
theorem dX12_spring_38 : decode cX12_spring 38 = .ok (.iload_n 1, 1) := by decide +kernel
theorem dX12_spring_39 : decode cX12_spring 39 = .ok (.iload_n 2, 1) := by decide +kernel
theorem dX12_spring_40 : decode cX12_spring 40 = .ok (.iload_n 3, 1) := by decide +kernel
theorem dX12_spring_41 : decode cX12_spring 41 = .ok (.invokevirtual 407, 3) := by decide +kernel
theorem dX12_spring_44 : decode cX12_spring 44 = .ok (.aload_n 0, 1) := by decide +kernel
theorem dX12_spring_45 : decode cX12_spring 45 = .ok (.getfield 45, 3) := by decide +kernel
theorem dX12_spring_48 : decode cX12_spring 48 = .ok (.iconst 1, 1) := by decide +kernel
theorem dX12_spring_49 : decode cX12_spring 49 = .ok (.iaload, 1) := by decide +kernel
theorem dX12_spring_50 : decode cX12_spring 50 = .ok (.ireturn, 1) := by decide +kernel
set_option maxRecDepth 20000 in
theorem ggX12_missOf_X12_tipOf : GoodIn wsX12_missOf wsX12_tipOf := goodIn_r _ [5, 6, 7, 8, 9, 4, 10, 14, 15, 16, 17, 18, 19, 20, 21, 22, 23, 24, 25, 26, 27, 28, 29, 30, 31, 32, 33, 34, 35, 36, 37, 38, 39, 40, 41, 42, 43, 44, 45, 46, 47, 48, 49, 50, 51, 52, 53, 54, 55] rfl (by decide +kernel)
set_option maxRecDepth 20000 in
theorem gX12_missOf_X12_tipOf : GoodIn wsX12_missOf (wsV RX12 327 RX12 yX12_tipOf wsX12_tipOf) := goodIn_app (goodIn_of _ (by decide +kernel)) ggX12_missOf_X12_tipOf
set_option maxRecDepth 20000 in
theorem ggX12_missOf_X12_plain : GoodIn wsX12_missOf wsX12_plain := goodIn_r _ [13] rfl (by decide +kernel)
set_option maxRecDepth 20000 in
theorem gX12_missOf_X12_plain : GoodIn wsX12_missOf (va_wsS RX12 324 yX12_plain wsX12_plain) := goodIn_app (goodIn_of _ (by decide +kernel)) ggX12_missOf_X12_plain
theorem dX12_missOf_0 : decode cX12_missOf 0 = .ok (.aload_n 0, 1) := by decide +kernel
theorem dX12_missOf_1 : decode cX12_missOf 1 = .ok (.iconst 0, 1) := by decide +kernel
theorem dX12_missOf_2 : decode cX12_missOf 2 = .ok (.iload_n 1, 1) := by decide +kernel
theorem dX12_missOf_3 : decode cX12_missOf 3 = .ok (.invokevirtual 327, 3) := by decide +kernel
theorem dX12_missOf_6 : decode cX12_missOf 6 = .ok (.aload_n 0, 1) := by decide +kernel
theorem dX12_missOf_7 : decode cX12_missOf 7 = .ok (.iconst 1, 1) := by decide +kernel
theorem dX12_missOf_8 : decode cX12_missOf 8 = .ok (.iload_n 1, 1) := by decide +kernel
theorem dX12_missOf_9 : decode cX12_missOf 9 = .ok (.invokevirtual 327, 3) := by decide +kernel
theorem dX12_missOf_12 : decode cX12_missOf 12 = .ok (.isub, 1) := by decide +kernel
theorem dX12_missOf_13 : decode cX12_missOf 13 = .ok (.invokestatic 324, 3) := by decide +kernel
theorem dX12_missOf_16 : decode cX12_missOf 16 = .ok (.ireturn, 1) := by decide +kernel
set_option maxRecDepth 20000 in
theorem ggX12_isInTime_X12_isMet : GoodIn wsX12_isInTime wsX12_isMet := goodIn_r _ [6, 7, 8, 9, 5, 10, 1, 26, 27, 28, 29, 30, 31, 32, 33, 34, 35, 36, 37, 38, 39, 40, 41, 42, 43, 44, 45, 46, 47, 48, 49, 50, 51, 52, 53, 54, 55, 56, 57, 58, 59, 60, 61, 62, 63, 64, 65, 66, 67] rfl (by decide +kernel)
set_option maxRecDepth 20000 in
theorem gX12_isInTime_X12_isMet : GoodIn wsX12_isInTime (wsV RX12 393 RX12 yX12_isMet wsX12_isMet) := goodIn_app (goodIn_of _ (by decide +kernel)) ggX12_isInTime_X12_isMet
set_option maxRecDepth 20000 in
theorem ggX12_isInTime_X12_missOf : GoodIn wsX12_isInTime wsX12_missOf := goodIn_r _ [14, 15, 16, 17, 5, 18, 1, 19, 20, 21, 22, 23, 24, 25, 26, 27, 28, 29, 30, 31, 32, 33, 34, 35, 36, 37, 38, 39, 40, 41, 42, 43, 44, 45, 46, 47, 48, 49, 50, 51, 52, 53, 54, 55, 56, 57, 58, 59, 60, 61, 62, 63, 64, 65, 66, 67] rfl (by decide +kernel)
set_option maxRecDepth 20000 in
theorem gX12_isInTime_X12_missOf : GoodIn wsX12_isInTime (wsV RX12 410 RX12 yX12_missOf wsX12_missOf) := goodIn_app (goodIn_of _ (by decide +kernel)) ggX12_isInTime_X12_missOf
theorem dX12_isInTime_0 : decode cX12_isInTime 0 = .ok (.aload_n 0, 1) := by decide +kernel
theorem dX12_isInTime_1 : decode cX12_isInTime 1 = .ok (.invokevirtual 393, 3) := by decide +kernel
theorem dX12_isInTime_4 : decode cX12_isInTime 4 = .ok (.ifCond .eq 35, 3) := by decide +kernel
theorem dX12_isInTime_7 : decode cX12_isInTime 7 = .ok (.aload_n 0, 1) := by decide +kernel
theorem dX12_isInTime_8 : decode cX12_isInTime 8 = .ok (.iconst 0, 1) := by decide +kernel
theorem dX12_isInTime_9 : decode cX12_isInTime 9 = .ok (.invokevirtual 410, 3) := by decide +kernel
theorem dX12_isInTime_12 : decode cX12_isInTime 12 = .ok (.aload_n 0, 1) := by decide +kernel
theorem dX12_isInTime_13 : decode cX12_isInTime 13 = .ok (.getfield 45, 3) := by decide +kernel
theorem dX12_isInTime_16 : decode cX12_isInTime 16 = .ok (.iconst 3, 1) := by decide +kernel
theorem dX12_isInTime_17 : decode cX12_isInTime 17 = .ok (.iaload, 1) := by decide +kernel
theorem dX12_isInTime_18 : decode cX12_isInTime 18 = .ok (.if_icmp .gt 21, 3) := by decide +kernel
theorem dX12_isInTime_21 : decode cX12_isInTime 21 = .ok (.aload_n 0, 1) := by decide +kernel
theorem dX12_isInTime_22 : decode cX12_isInTime 22 = .ok (.iconst 1, 1) := by decide +kernel
theorem dX12_isInTime_23 : decode cX12_isInTime 23 = .ok (.invokevirtual 410, 3) := by decide +kernel
theorem dX12_isInTime_26 : decode cX12_isInTime 26 = .ok (.aload_n 0, 1) := by decide +kernel
theorem dX12_isInTime_27 : decode cX12_isInTime 27 = .ok (.getfield 45, 3) := by decide +kernel
theorem dX12_isInTime_30 : decode cX12_isInTime 30 = .ok (.iconst 3, 1) := by decide +kernel
theorem dX12_isInTime_31 : decode cX12_isInTime 31 = .ok (.iaload, 1) := by decide +kernel
theorem dX12_isInTime_32 : decode cX12_isInTime 32 = .ok (.if_icmp .gt 7, 3) := by decide +kernel
theorem dX12_isInTime_35 : decode cX12_isInTime 35 = .ok (.iconst 1, 1) := by decide +kernel
theorem dX12_isInTime_36 : decode cX12_isInTime 36 = .ok (.goto 4, 3) := by decide +kernel
theorem dX12_isInTime_39 : decode cX12_isInTime 39 = .ok (.iconst 0, 1) := by decide +kernel
theorem dX12_isInTime_40 : decode cX12_isInTime 40 = .ok (.ireturn, 1) := by decide +kernel
set_option maxRecDepth 20000 in
theorem ggX12_miss_X12_isRiver : GoodIn wsX12_miss wsX12_isRiver := goodIn_r _ [6, 7, 38, 39, 40, 41, 42, 43, 44, 45, 46, 47, 48, 49, 50, 51, 52, 53, 54, 55, 56, 57, 58, 59, 60, 61, 62, 63, 64, 65, 66, 67, 68, 69, 70, 71, 72, 73, 74, 75, 76, 77, 78, 79] rfl (by decide +kernel)
set_option maxRecDepth 20000 in
theorem gX12_miss_X12_isRiver : GoodIn wsX12_miss (wsV RX12 331 RX12 yX12_isRiver wsX12_isRiver) := goodIn_app (goodIn_of _ (by decide +kernel)) ggX12_miss_X12_isRiver
set_option maxRecDepth 20000 in
theorem ggX12_miss_X12_in : GoodIn wsX12_miss wsX12_in := goodIn_r _ [10] rfl (by decide +kernel)
set_option maxRecDepth 20000 in
theorem gX12_miss_X12_in : GoodIn wsX12_miss (va_wsS RX12 131 yX12_in wsX12_in) := goodIn_app (goodIn_of _ (by decide +kernel)) ggX12_miss_X12_in
set_option maxRecDepth 20000 in
theorem ggX12_miss_X12_missOf : GoodIn wsX12_miss wsX12_missOf := goodIn_r _ [14, 15, 16, 17, 5, 18, 7, 19, 20, 21, 22, 23, 24, 25, 38, 39, 40, 41, 42, 43, 44, 45, 46, 47, 48, 49, 50, 51, 52, 53, 54, 55, 56, 57, 58, 59, 60, 61, 62, 63, 64, 65, 66, 67, 68, 69, 70, 71, 72, 73, 74, 75, 76, 77, 78, 79] rfl (by decide +kernel)
set_option maxRecDepth 20000 in
theorem gX12_miss_X12_missOf : GoodIn wsX12_miss (wsV RX12 410 RX12 yX12_missOf wsX12_missOf) := goodIn_app (goodIn_of _ (by decide +kernel)) ggX12_miss_X12_missOf
set_option maxRecDepth 20000 in
theorem ggX12_miss_X12_isMet : GoodIn wsX12_miss wsX12_isMet := goodIn_r _ [29, 30, 31, 32, 5, 33, 7, 38, 39, 40, 41, 42, 43, 44, 45, 46, 47, 48, 49, 50, 51, 52, 53, 54, 55, 56, 57, 58, 59, 60, 61, 62, 63, 64, 65, 66, 67, 68, 69, 70, 71, 72, 73, 74, 75, 76, 77, 78, 79] rfl (by decide +kernel)
set_option maxRecDepth 20000 in
theorem gX12_miss_X12_isMet : GoodIn wsX12_miss (wsV RX12 393 RX12 yX12_isMet wsX12_isMet) := goodIn_app (goodIn_of _ (by decide +kernel)) ggX12_miss_X12_isMet
set_option maxRecDepth 20000 in
theorem ggX12_miss_X12_isInTime : GoodIn wsX12_miss wsX12_isInTime := goodIn_r _ [37, 7, 26, 27, 28, 5, 29, 30, 31, 32, 33, 11, 12, 13, 14, 15, 16, 17, 18, 19, 20, 21, 22, 23, 24, 25, 38, 39, 40, 41, 42, 43, 44, 45, 46, 47, 48, 49, 50, 51, 52, 53, 54, 55, 56, 57, 58, 59, 60, 61, 62, 63, 64, 65, 66, 67, 68, 69, 70, 71, 72, 73, 74, 75, 76, 77, 78, 79] rfl (by decide +kernel)
set_option maxRecDepth 20000 in
theorem gX12_miss_X12_isInTime : GoodIn wsX12_miss (wsV RX12 413 RX12 yX12_isInTime wsX12_isInTime) := goodIn_app (goodIn_of _ (by decide +kernel)) ggX12_miss_X12_isInTime
theorem dX12_miss_0 : decode cX12_miss 0 = .ok (.aload_n 0, 1) := by decide +kernel
theorem dX12_miss_1 : decode cX12_miss 1 = .ok (.invokevirtual 331, 3) := by decide +kernel
theorem dX12_miss_4 : decode cX12_miss 4 = .ok (.ifCond .eq 15, 3) := by decide +kernel
theorem dX12_miss_7 : decode cX12_miss 7 = .ok (.iload_n 1, 1) := by decide +kernel
theorem dX12_miss_8 : decode cX12_miss 8 = .ok (.i2l, 1) := by decide +kernel
theorem dX12_miss_9 : decode cX12_miss 9 = .ok (.lconst 0, 1) := by decide +kernel
theorem dX12_miss_10 : decode cX12_miss 10 = .ok (.ldc2_w 337, 3) := by decide +kernel
theorem dX12_miss_13 : decode cX12_miss 13 = .ok (.invokestatic 131, 3) := by decide +kernel
theorem dX12_miss_16 : decode cX12_miss 16 = .ok (.ifCond .ne 5, 3) := by decide +kernel
theorem dX12_miss_19 : decode cX12_miss 19 = .ok (.iconst (-1), 1) := by decide +kernel
theorem dX12_miss_20 : decode cX12_miss 20 = .ok (.ireturn, 1) := by decide +kernel
theorem dX12_miss_21 : decode cX12_miss 21 = .ok (.iload_n 1, 1) := by decide +kernel
theorem dX12_miss_22 : decode cX12_miss 22 = .ok (.iconst 2, 1) := by decide +kernel
theorem dX12_miss_23 : decode cX12_miss 23 = .ok (.if_icmp .ge 11, 3) := by decide +kernel
theorem dX12_miss_26 : decode cX12_miss 26 = .ok (.aload_n 0, 1) := by decide +kernel
theorem dX12_miss_27 : decode cX12_miss 27 = .ok (.iload_n 1, 1) := by decide +kernel
theorem dX12_miss_28 : decode cX12_miss 28 = .ok (.invokevirtual 410, 3) := by decide +kernel
theorem dX12_miss_31 : decode cX12_miss 31 = .ok (.goto 35, 3) := by decide +kernel
theorem dX12_miss_34 : decode cX12_miss 34 = .ok (.iload_n 1, 1) := by decide +kernel
theorem dX12_miss_35 : decode cX12_miss 35 = .ok (.iconst 2, 1) := by decide +kernel
theorem dX12_miss_36 : decode cX12_miss 36 = .ok (.if_icmp .ne 18, 3) := by decide +kernel
theorem dX12_miss_39 : decode cX12_miss 39 = .ok (.aload_n 0, 1) := by decide +kernel
theorem dX12_miss_40 : decode cX12_miss 40 = .ok (.invokevirtual 393, 3) := by decide +kernel
theorem dX12_miss_43 : decode cX12_miss 43 = .ok (.ifCond .eq 7, 3) := by decide +kernel
theorem dX12_miss_46 : decode cX12_miss 46 = .ok (.iconst 1, 1) := by decide +kernel
theorem dX12_miss_47 : decode cX12_miss 47 = .ok (.goto 19, 3) := by decide +kernel
theorem dX12_miss_50 : decode cX12_miss 50 = .ok (.iconst 0, 1) := by decide +kernel
theorem dX12_miss_51 : decode cX12_miss 51 = .ok (.goto 15, 3) := by decide +kernel
theorem dX12_miss_54 : decode cX12_miss 54 = .ok (.aload_n 0, 1) := by decide +kernel
theorem dX12_miss_55 : decode cX12_miss 55 = .ok (.invokevirtual 413, 3) := by decide +kernel
theorem dX12_miss_58 : decode cX12_miss 58 = .ok (.ifCond .eq 7, 3) := by decide +kernel
theorem dX12_miss_61 : decode cX12_miss 61 = .ok (.iconst 1, 1) := by decide +kernel
theorem dX12_miss_62 : decode cX12_miss 62 = .ok (.goto 4, 3) := by decide +kernel
theorem dX12_miss_65 : decode cX12_miss 65 = .ok (.iconst 0, 1) := by decide +kernel
theorem dX12_miss_66 : decode cX12_miss 66 = .ok (.ireturn, 1) := by decide +kernel
theorem dX12_keeps_0 : decode cX12_keeps 0 = .ok (.iconst 0, 1) := by decide +kernel
theorem dX12_keeps_1 : decode cX12_keeps 1 = .ok (.istore_n 1, 1) := by decide +kernel
theorem dX12_keeps_2 : decode cX12_keeps 2 = .ok (.iload_n 1, 1) := by decide +kernel
theorem dX12_keeps_3 : decode cX12_keeps 3 = .ok (.sipush 286, 3) := by decide +kernel
theorem dX12_keeps_6 : decode cX12_keeps 6 = .ok (.if_icmp .ge 21, 3) := by decide +kernel
theorem dX12_keeps_9 : decode cX12_keeps 9 = .ok (.aload_n 0, 1) := by decide +kernel
theorem dX12_keeps_10 : decode cX12_keeps 10 = .ok (.getfield 60, 3) := by decide +kernel
theorem dX12_keeps_13 : decode cX12_keeps 13 = .ok (.iload_n 1, 1) := by decide +kernel
theorem dX12_keeps_14 : decode cX12_keeps 14 = .ok (.aload_n 0, 1) := by decide +kernel
theorem dX12_keeps_15 : decode cX12_keeps 15 = .ok (.getfield 45, 3) := by decide +kernel
theorem dX12_keeps_18 : decode cX12_keeps 18 = .ok (.iload_n 1, 1) := by decide +kernel
theorem dX12_keeps_19 : decode cX12_keeps 19 = .ok (.iaload, 1) := by decide +kernel
theorem dX12_keeps_20 : decode cX12_keeps 20 = .ok (.iastore, 1) := by decide +kernel
theorem dX12_keeps_21 : decode cX12_keeps 21 = .ok (.iinc 1 1, 3) := by decide +kernel
theorem dX12_keeps_24 : decode cX12_keeps 24 = .ok (.goto (-22), 3) := by decide +kernel
theorem dX12_keeps_27 : decode cX12_keeps 27 = .ok (.return_, 1) := by decide +kernel
theorem dX12_putsBack_0 : decode cX12_putsBack 0 = .ok (.iconst 0, 1) := by decide +kernel
theorem dX12_putsBack_1 : decode cX12_putsBack 1 = .ok (.istore_n 1, 1) := by decide +kernel
theorem dX12_putsBack_2 : decode cX12_putsBack 2 = .ok (.iload_n 1, 1) := by decide +kernel
theorem dX12_putsBack_3 : decode cX12_putsBack 3 = .ok (.sipush 286, 3) := by decide +kernel
theorem dX12_putsBack_6 : decode cX12_putsBack 6 = .ok (.if_icmp .ge 21, 3) := by decide +kernel
theorem dX12_putsBack_9 : decode cX12_putsBack 9 = .ok (.aload_n 0, 1) := by decide +kernel
theorem dX12_putsBack_10 : decode cX12_putsBack 10 = .ok (.getfield 45, 3) := by decide +kernel
theorem dX12_putsBack_13 : decode cX12_putsBack 13 = .ok (.iload_n 1, 1) := by decide +kernel
theorem dX12_putsBack_14 : decode cX12_putsBack 14 = .ok (.aload_n 0, 1) := by decide +kernel
theorem dX12_putsBack_15 : decode cX12_putsBack 15 = .ok (.getfield 60, 3) := by decide +kernel
theorem dX12_putsBack_18 : decode cX12_putsBack 18 = .ok (.iload_n 1, 1) := by decide +kernel
theorem dX12_putsBack_19 : decode cX12_putsBack 19 = .ok (.iaload, 1) := by decide +kernel
theorem dX12_putsBack_20 : decode cX12_putsBack 20 = .ok (.iastore, 1) := by decide +kernel
theorem dX12_putsBack_21 : decode cX12_putsBack 21 = .ok (.iinc 1 1, 3) := by decide +kernel
theorem dX12_putsBack_24 : decode cX12_putsBack 24 = .ok (.goto (-22), 3) := by decide +kernel
theorem dX12_putsBack_27 : decode cX12_putsBack 27 = .ok (.return_, 1) := by decide +kernel
set_option maxRecDepth 20000 in
theorem ggX12_ahead_X12_canAsk : GoodIn wsX12_ahead wsX12_canAsk := goodIn_r _ [8, 9, 10, 11, 7, 12, 3, 13, 14, 15, 16, 17, 145, 146, 147, 148, 149, 150, 151, 152, 153, 154, 155, 156, 157, 158, 159, 160, 161, 162, 163, 164, 165, 166, 167, 168, 169, 170, 171, 172, 173, 174, 175, 176, 177, 178, 179, 180, 181, 182, 183, 184, 185, 186] rfl (by decide +kernel)
set_option maxRecDepth 20000 in
theorem gX12_ahead_X12_canAsk : GoodIn wsX12_ahead (wsV RX12 402 RX12 yX12_canAsk wsX12_canAsk) := goodIn_app (goodIn_of _ (by decide +kernel)) ggX12_ahead_X12_canAsk
set_option maxRecDepth 20000 in
theorem ggX12_ahead_X12_in : GoodIn wsX12_ahead wsX12_in := goodIn_r _ [20] rfl (by decide +kernel)
set_option maxRecDepth 20000 in
theorem gX12_ahead_X12_in : GoodIn wsX12_ahead (va_wsS RX12 131 yX12_in wsX12_in) := goodIn_app (goodIn_of _ (by decide +kernel)) ggX12_ahead_X12_in
set_option maxRecDepth 20000 in
theorem ggX12_ahead_X12_keeps : GoodIn wsX12_ahead wsX12_keeps := goodIn_r _ [24, 25, 3, 145, 146, 147, 148, 149, 150, 151, 152, 153, 154, 155, 156, 157, 158, 159, 160, 161, 162, 163, 164, 165, 166, 167, 168, 169, 170, 171, 172, 173, 174, 175, 176, 177, 178, 179, 180, 181, 182, 183, 184, 185, 186] rfl (by decide +kernel)
set_option maxRecDepth 20000 in
theorem gX12_ahead_X12_keeps : GoodIn wsX12_ahead (wsV RX12 420 RX12 yX12_keeps wsX12_keeps) := goodIn_app (goodIn_of _ (by decide +kernel)) ggX12_ahead_X12_keeps
set_option maxRecDepth 20000 in
theorem ggX12_ahead_X12_springs : GoodIn wsX12_ahead wsX12_springs := goodIn_r _ [29, 30, 31, 32, 7, 33, 34, 35, 36, 37, 3, 38, 39, 40, 41, 42, 43, 44, 45, 46, 47, 48, 49, 50, 51, 52, 53, 54, 55, 56, 57, 58, 59, 60, 61, 62, 63, 64, 65, 66, 67, 68, 69, 70, 71, 72, 73, 74, 75, 76, 77, 78, 79, 80, 81, 82, 83, 84, 85, 86, 87, 88, 89, 90, 91, 92, 93, 94, 95, 96, 97, 98, 99, 100, 101, 102, 103, 104, 105, 106, 107, 108, 109, 110, 111, 112, 113, 114, 115, 116, 117, 118, 119, 120, 121, 122, 123, 124, 125, 145, 146, 147, 148, 149, 150, 151, 152, 153, 154, 155, 156, 157, 158, 159, 160, 161, 162, 163, 164, 165, 166, 167, 168, 169, 170, 171, 172, 173, 174, 175, 176, 177, 178, 179, 180, 181, 182, 183, 184, 185, 186] rfl (by decide +kernel)
set_option maxRecDepth 20000 in
theorem gX12_ahead_X12_springs : GoodIn wsX12_ahead (wsV RX12 407 RX12 yX12_springs wsX12_springs) := goodIn_app (goodIn_of _ (by decide +kernel)) ggX12_ahead_X12_springs
set_option maxRecDepth 20000 in
theorem ggX12_ahead_X12_isMet : GoodIn wsX12_ahead wsX12_isMet := goodIn_r _ [33, 34, 35, 36, 7, 37, 3, 145, 146, 147, 148, 149, 150, 151, 152, 153, 154, 155, 156, 157, 158, 159, 160, 161, 162, 163, 164, 165, 166, 167, 168, 169, 170, 171, 172, 173, 174, 175, 176, 177, 178, 179, 180, 181, 182, 183, 184, 185, 186] rfl (by decide +kernel)
set_option maxRecDepth 20000 in
theorem gX12_ahead_X12_isMet : GoodIn wsX12_ahead (wsV RX12 393 RX12 yX12_isMet wsX12_isMet) := goodIn_app (goodIn_of _ (by decide +kernel)) ggX12_ahead_X12_isMet
set_option maxRecDepth 20000 in
theorem ggX12_ahead_X12_missOf : GoodIn wsX12_ahead wsX12_missOf := goodIn_r _ [129, 55, 56, 57, 7, 58, 3, 59, 60, 61, 62, 130, 131, 132, 145, 146, 147, 148, 149, 150, 151, 152, 153, 154, 155, 156, 157, 158, 159, 160, 161, 162, 163, 164, 165, 166, 167, 168, 169, 170, 171, 172, 173, 174, 175, 176, 177, 178, 179, 180, 181, 182, 183, 184, 185, 186] rfl (by decide +kernel)
set_option maxRecDepth 20000 in
theorem gX12_ahead_X12_missOf : GoodIn wsX12_ahead (wsV RX12 410 RX12 yX12_missOf wsX12_missOf) := goodIn_app (goodIn_of _ (by decide +kernel)) ggX12_ahead_X12_missOf
set_option maxRecDepth 20000 in
theorem ggX12_ahead_X12_crooked : GoodIn wsX12_ahead wsX12_crooked := goodIn_r _ [136, 3, 67, 68, 69, 7, 70, 59, 60, 61, 62, 130, 131, 132, 145, 146, 147, 148, 149, 150, 151, 152, 153, 154, 155, 156, 157, 158, 159, 160, 161, 162, 163, 164, 165, 166, 167, 168, 169, 170, 171, 172, 173, 174, 175, 176, 177, 178, 179, 180, 181, 182, 183, 184, 185, 186] rfl (by decide +kernel)
set_option maxRecDepth 20000 in
theorem gX12_ahead_X12_crooked : GoodIn wsX12_ahead (wsV RX12 342 RX12 yX12_crooked wsX12_crooked) := goodIn_app (goodIn_of _ (by decide +kernel)) ggX12_ahead_X12_crooked
set_option maxRecDepth 20000 in
theorem ggX12_ahead_X12_isInTime : GoodIn wsX12_ahead wsX12_isInTime := goodIn_r _ [140, 3, 30, 31, 32, 7, 33, 34, 35, 36, 37, 126, 127, 128, 129, 55, 56, 57, 58, 59, 60, 61, 62, 130, 131, 132, 145, 146, 147, 148, 149, 150, 151, 152, 153, 154, 155, 156, 157, 158, 159, 160, 161, 162, 163, 164, 165, 166, 167, 168, 169, 170, 171, 172, 173, 174, 175, 176, 177, 178, 179, 180, 181, 182, 183, 184, 185, 186] rfl (by decide +kernel)
set_option maxRecDepth 20000 in
theorem gX12_ahead_X12_isInTime : GoodIn wsX12_ahead (wsV RX12 413 RX12 yX12_isInTime wsX12_isInTime) := goodIn_app (goodIn_of _ (by decide +kernel)) ggX12_ahead_X12_isInTime
set_option maxRecDepth 20000 in
theorem ggX12_ahead_X12_putsBack : GoodIn wsX12_ahead wsX12_putsBack := goodIn_r _ [144, 3, 25, 145, 146, 147, 148, 149, 150, 151, 152, 153, 154, 155, 156, 157, 158, 159, 160, 161, 162, 163, 164, 165, 166, 167, 168, 169, 170, 171, 172, 173, 174, 175, 176, 177, 178, 179, 180, 181, 182, 183, 184, 185, 186] rfl (by decide +kernel)
set_option maxRecDepth 20000 in
theorem gX12_ahead_X12_putsBack : GoodIn wsX12_ahead (wsV RX12 423 RX12 yX12_putsBack wsX12_putsBack) := goodIn_app (goodIn_of _ (by decide +kernel)) ggX12_ahead_X12_putsBack
theorem dX12_ahead_0 : decode cX12_ahead 0 = .ok (.aload_n 0, 1) := by decide +kernel
theorem dX12_ahead_1 : decode cX12_ahead 1 = .ok (.iload_n 1, 1) := by decide +kernel
theorem dX12_ahead_2 : decode cX12_ahead 2 = .ok (.iload_n 2, 1) := by decide +kernel
theorem dX12_ahead_3 : decode cX12_ahead 3 = .ok (.invokevirtual 402, 3) := by decide +kernel
theorem dX12_ahead_6 : decode cX12_ahead 6 = .ok (.ifCond .eq 28, 3) := by decide +kernel
theorem dX12_ahead_9 : decode cX12_ahead 9 = .ok (.iload_n 3, 1) := by decide +kernel
theorem dX12_ahead_10 : decode cX12_ahead 10 = .ok (.i2l, 1) := by decide +kernel
theorem dX12_ahead_11 : decode cX12_ahead 11 = .ok (.lconst 0, 1) := by decide +kernel
theorem dX12_ahead_12 : decode cX12_ahead 12 = .ok (.ldc2_w 416, 3) := by decide +kernel
theorem dX12_ahead_15 : decode cX12_ahead 15 = .ok (.invokestatic 131, 3) := by decide +kernel
theorem dX12_ahead_18 : decode cX12_ahead 18 = .ok (.ifCond .eq 16, 3) := by decide +kernel
theorem dX12_ahead_21 : decode cX12_ahead 21 = .ok (.iload 4, 2) := by decide +kernel
theorem dX12_ahead_23 : decode cX12_ahead 23 = .ok (.i2l, 1) := by decide +kernel
theorem dX12_ahead_24 : decode cX12_ahead 24 = .ok (.lconst 0, 1) := by decide +kernel
theorem dX12_ahead_25 : decode cX12_ahead 25 = .ok (.ldc2_w 418, 3) := by decide +kernel
theorem dX12_ahead_28 : decode cX12_ahead 28 = .ok (.invokestatic 131, 3) := by decide +kernel
theorem dX12_ahead_31 : decode cX12_ahead 31 = .ok (.ifCond .ne 5, 3) := by decide +kernel
theorem dX12_ahead_34 : decode cX12_ahead 34 = .ok (.iconst (-1), 1) := by decide +kernel
theorem dX12_ahead_35 : decode cX12_ahead 35 = .ok (.ireturn, 1) := by decide +kernel
theorem dX12_ahead_36 : decode cX12_ahead 36 = .ok (.aload_n 0, 1) := by decide +kernel
theorem dX12_ahead_37 : decode cX12_ahead 37 = .ok (.invokevirtual 420, 3) := by decide +kernel
theorem dX12_ahead_40 : decode cX12_ahead 40 = .ok (.aload_n 0, 1) := by decide +kernel
theorem dX12_ahead_41 : decode cX12_ahead 41 = .ok (.iload_n 1, 1) := by decide +kernel
theorem dX12_ahead_42 : decode cX12_ahead 42 = .ok (.iload_n 2, 1) := by decide +kernel
theorem dX12_ahead_43 : decode cX12_ahead 43 = .ok (.iload_n 3, 1) := by decide +kernel
theorem dX12_ahead_44 : decode cX12_ahead 44 = .ok (.invokevirtual 407, 3) := by decide +kernel
theorem dX12_ahead_47 : decode cX12_ahead 47 = .ok (.iload 4, 2) := by decide +kernel
theorem dX12_ahead_49 : decode cX12_ahead 49 = .ok (.ifCond .ne 24, 3) := by decide +kernel
theorem dX12_ahead_52 : decode cX12_ahead 52 = .ok (.aload_n 0, 1) := by decide +kernel
theorem dX12_ahead_53 : decode cX12_ahead 53 = .ok (.invokevirtual 393, 3) := by decide +kernel
theorem dX12_ahead_56 : decode cX12_ahead 56 = .ok (.ifCond .eq 12, 3) := by decide +kernel
theorem dX12_ahead_59 : decode cX12_ahead 59 = .ok (.aload_n 0, 1) := by decide +kernel
theorem dX12_ahead_60 : decode cX12_ahead 60 = .ok (.getfield 45, 3) := by decide +kernel
theorem dX12_ahead_63 : decode cX12_ahead 63 = .ok (.iconst 1, 1) := by decide +kernel
theorem dX12_ahead_64 : decode cX12_ahead 64 = .ok (.iaload, 1) := by decide +kernel
theorem dX12_ahead_65 : decode cX12_ahead 65 = .ok (.goto 54, 3) := by decide +kernel
theorem dX12_ahead_68 : decode cX12_ahead 68 = .ok (.bipush (-2), 2) := by decide +kernel
theorem dX12_ahead_70 : decode cX12_ahead 70 = .ok (.goto 49, 3) := by decide +kernel
theorem dX12_ahead_73 : decode cX12_ahead 73 = .ok (.iload 4, 2) := by decide +kernel
theorem dX12_ahead_75 : decode cX12_ahead 75 = .ok (.iconst 3, 1) := by decide +kernel
theorem dX12_ahead_76 : decode cX12_ahead 76 = .ok (.if_icmp .ge 14, 3) := by decide +kernel
theorem dX12_ahead_79 : decode cX12_ahead 79 = .ok (.aload_n 0, 1) := by decide +kernel
theorem dX12_ahead_80 : decode cX12_ahead 80 = .ok (.iload 4, 2) := by decide +kernel
theorem dX12_ahead_82 : decode cX12_ahead 82 = .ok (.iconst 1, 1) := by decide +kernel
theorem dX12_ahead_83 : decode cX12_ahead 83 = .ok (.isub, 1) := by decide +kernel
theorem dX12_ahead_84 : decode cX12_ahead 84 = .ok (.invokevirtual 410, 3) := by decide +kernel
theorem dX12_ahead_87 : decode cX12_ahead 87 = .ok (.goto 32, 3) := by decide +kernel
theorem dX12_ahead_90 : decode cX12_ahead 90 = .ok (.iload 4, 2) := by decide +kernel
theorem dX12_ahead_92 : decode cX12_ahead 92 = .ok (.iconst 5, 1) := by decide +kernel
theorem dX12_ahead_93 : decode cX12_ahead 93 = .ok (.if_icmp .ge 14, 3) := by decide +kernel
theorem dX12_ahead_96 : decode cX12_ahead 96 = .ok (.aload_n 0, 1) := by decide +kernel
theorem dX12_ahead_97 : decode cX12_ahead 97 = .ok (.iload 4, 2) := by decide +kernel
theorem dX12_ahead_99 : decode cX12_ahead 99 = .ok (.iconst 3, 1) := by decide +kernel
theorem dX12_ahead_100 : decode cX12_ahead 100 = .ok (.isub, 1) := by decide +kernel
theorem dX12_ahead_101 : decode cX12_ahead 101 = .ok (.invokevirtual 342, 3) := by decide +kernel
theorem dX12_ahead_104 : decode cX12_ahead 104 = .ok (.goto 15, 3) := by decide +kernel
theorem dX12_ahead_107 : decode cX12_ahead 107 = .ok (.aload_n 0, 1) := by decide +kernel
theorem dX12_ahead_108 : decode cX12_ahead 108 = .ok (.invokevirtual 413, 3) := by decide +kernel
theorem dX12_ahead_111 : decode cX12_ahead 111 = .ok (.ifCond .eq 7, 3) := by decide +kernel
theorem dX12_ahead_114 : decode cX12_ahead 114 = .ok (.iconst 1, 1) := by decide +kernel
theorem dX12_ahead_115 : decode cX12_ahead 115 = .ok (.goto 4, 3) := by decide +kernel
theorem dX12_ahead_118 : decode cX12_ahead 118 = .ok (.iconst 0, 1) := by decide +kernel
theorem dX12_ahead_119 : decode cX12_ahead 119 = .ok (.istore 5, 2) := by decide +kernel
theorem dX12_ahead_121 : decode cX12_ahead 121 = .ok (.aload_n 0, 1) := by decide +kernel
theorem dX12_ahead_122 : decode cX12_ahead 122 = .ok (.invokevirtual 423, 3) := by decide +kernel
theorem dX12_ahead_125 : decode cX12_ahead 125 = .ok (.iload 5, 2) := by decide +kernel
theorem dX12_ahead_127 : decode cX12_ahead 127 = .ok (.ireturn, 1) := by decide +kernel
set_option maxRecDepth 20000 in
theorem ggX12_keepsDay_X12_yardOf : GoodIn wsX12_keepsDay wsX12_yardOf := goodIn_r _ [8, 2, 9, 10, 11, 12, 13, 14, 15, 16, 17, 18, 19, 20, 21, 22, 23, 24, 25, 26, 27, 28, 29, 30, 31, 32, 33, 34, 35, 36, 37, 38, 39, 40, 41, 42, 43, 44, 45, 46, 47, 48, 49, 50] rfl (by decide +kernel)
set_option maxRecDepth 20000 in
theorem gX12_keepsDay_X12_yardOf : GoodIn wsX12_keepsDay (wsV RX12 317 RX12 yX12_yardOf wsX12_yardOf) := goodIn_app (goodIn_of _ (by decide +kernel)) ggX12_keepsDay_X12_yardOf
theorem dX12_keepsDay_0 : decode cX12_keepsDay 0 = .ok (.iconst 0, 1) := by decide +kernel
theorem dX12_keepsDay_1 : decode cX12_keepsDay 1 = .ok (.istore_n 2, 1) := by decide +kernel
theorem dX12_keepsDay_2 : decode cX12_keepsDay 2 = .ok (.iload_n 2, 1) := by decide +kernel
theorem dX12_keepsDay_3 : decode cX12_keepsDay 3 = .ok (.iconst 2, 1) := by decide +kernel
theorem dX12_keepsDay_4 : decode cX12_keepsDay 4 = .ok (.if_icmp .ge 94, 3) := by decide +kernel
theorem dX12_keepsDay_7 : decode cX12_keepsDay 7 = .ok (.aload_n 0, 1) := by decide +kernel
theorem dX12_keepsDay_8 : decode cX12_keepsDay 8 = .ok (.getfield 63, 3) := by decide +kernel
theorem dX12_keepsDay_11 : decode cX12_keepsDay 11 = .ok (.iconst 2, 1) := by decide +kernel
theorem dX12_keepsDay_12 : decode cX12_keepsDay 12 = .ok (.iload_n 1, 1) := by decide +kernel
theorem dX12_keepsDay_13 : decode cX12_keepsDay 13 = .ok (.imul, 1) := by decide +kernel
theorem dX12_keepsDay_14 : decode cX12_keepsDay 14 = .ok (.iload_n 2, 1) := by decide +kernel
theorem dX12_keepsDay_15 : decode cX12_keepsDay 15 = .ok (.iadd, 1) := by decide +kernel
theorem dX12_keepsDay_16 : decode cX12_keepsDay 16 = .ok (.aload_n 0, 1) := by decide +kernel
theorem dX12_keepsDay_17 : decode cX12_keepsDay 17 = .ok (.getfield 45, 3) := by decide +kernel
theorem dX12_keepsDay_20 : decode cX12_keepsDay 20 = .ok (.bipush 6, 2) := by decide +kernel
theorem dX12_keepsDay_22 : decode cX12_keepsDay 22 = .ok (.iload_n 2, 1) := by decide +kernel
theorem dX12_keepsDay_23 : decode cX12_keepsDay 23 = .ok (.iadd, 1) := by decide +kernel
theorem dX12_keepsDay_24 : decode cX12_keepsDay 24 = .ok (.iaload, 1) := by decide +kernel
theorem dX12_keepsDay_25 : decode cX12_keepsDay 25 = .ok (.iastore, 1) := by decide +kernel
theorem dX12_keepsDay_26 : decode cX12_keepsDay 26 = .ok (.iconst 0, 1) := by decide +kernel
theorem dX12_keepsDay_27 : decode cX12_keepsDay 27 = .ok (.istore_n 3, 1) := by decide +kernel
theorem dX12_keepsDay_28 : decode cX12_keepsDay 28 = .ok (.iload_n 3, 1) := by decide +kernel
theorem dX12_keepsDay_29 : decode cX12_keepsDay 29 = .ok (.aload_n 0, 1) := by decide +kernel
theorem dX12_keepsDay_30 : decode cX12_keepsDay 30 = .ok (.getfield 45, 3) := by decide +kernel
theorem dX12_keepsDay_33 : decode cX12_keepsDay 33 = .ok (.bipush 6, 2) := by decide +kernel
theorem dX12_keepsDay_35 : decode cX12_keepsDay 35 = .ok (.iload_n 2, 1) := by decide +kernel
theorem dX12_keepsDay_36 : decode cX12_keepsDay 36 = .ok (.iadd, 1) := by decide +kernel
theorem dX12_keepsDay_37 : decode cX12_keepsDay 37 = .ok (.iaload, 1) := by decide +kernel
theorem dX12_keepsDay_38 : decode cX12_keepsDay 38 = .ok (.if_icmp .ge 54, 3) := by decide +kernel
theorem dX12_keepsDay_41 : decode cX12_keepsDay 41 = .ok (.iconst 0, 1) := by decide +kernel
theorem dX12_keepsDay_42 : decode cX12_keepsDay 42 = .ok (.istore 4, 2) := by decide +kernel
theorem dX12_keepsDay_44 : decode cX12_keepsDay 44 = .ok (.iload 4, 2) := by decide +kernel
theorem dX12_keepsDay_46 : decode cX12_keepsDay 46 = .ok (.iconst 2, 1) := by decide +kernel
theorem dX12_keepsDay_47 : decode cX12_keepsDay 47 = .ok (.if_icmp .ge 39, 3) := by decide +kernel
theorem dX12_keepsDay_50 : decode cX12_keepsDay 50 = .ok (.aload_n 0, 1) := by decide +kernel
theorem dX12_keepsDay_51 : decode cX12_keepsDay 51 = .ok (.getfield 67, 3) := by decide +kernel
theorem dX12_keepsDay_54 : decode cX12_keepsDay 54 = .ok (.sipush 160, 3) := by decide +kernel
theorem dX12_keepsDay_57 : decode cX12_keepsDay 57 = .ok (.iload_n 1, 1) := by decide +kernel
theorem dX12_keepsDay_58 : decode cX12_keepsDay 58 = .ok (.imul, 1) := by decide +kernel
theorem dX12_keepsDay_59 : decode cX12_keepsDay 59 = .ok (.bipush 80, 2) := by decide +kernel
theorem dX12_keepsDay_61 : decode cX12_keepsDay 61 = .ok (.iload_n 2, 1) := by decide +kernel
theorem dX12_keepsDay_62 : decode cX12_keepsDay 62 = .ok (.imul, 1) := by decide +kernel
theorem dX12_keepsDay_63 : decode cX12_keepsDay 63 = .ok (.iadd, 1) := by decide +kernel
theorem dX12_keepsDay_64 : decode cX12_keepsDay 64 = .ok (.iconst 2, 1) := by decide +kernel
theorem dX12_keepsDay_65 : decode cX12_keepsDay 65 = .ok (.iload_n 3, 1) := by decide +kernel
theorem dX12_keepsDay_66 : decode cX12_keepsDay 66 = .ok (.imul, 1) := by decide +kernel
theorem dX12_keepsDay_67 : decode cX12_keepsDay 67 = .ok (.iadd, 1) := by decide +kernel
theorem dX12_keepsDay_68 : decode cX12_keepsDay 68 = .ok (.iload 4, 2) := by decide +kernel
theorem dX12_keepsDay_70 : decode cX12_keepsDay 70 = .ok (.iadd, 1) := by decide +kernel
theorem dX12_keepsDay_71 : decode cX12_keepsDay 71 = .ok (.aload_n 0, 1) := by decide +kernel
theorem dX12_keepsDay_72 : decode cX12_keepsDay 72 = .ok (.iload_n 2, 1) := by decide +kernel
theorem dX12_keepsDay_73 : decode cX12_keepsDay 73 = .ok (.iload_n 3, 1) := by decide +kernel
theorem dX12_keepsDay_74 : decode cX12_keepsDay 74 = .ok (.iload 4, 2) := by decide +kernel
theorem dX12_keepsDay_76 : decode cX12_keepsDay 76 = .ok (.invokevirtual 317, 3) := by decide +kernel
theorem dX12_keepsDay_79 : decode cX12_keepsDay 79 = .ok (.iastore, 1) := by decide +kernel
theorem dX12_keepsDay_80 : decode cX12_keepsDay 80 = .ok (.iinc 4 1, 3) := by decide +kernel
theorem dX12_keepsDay_83 : decode cX12_keepsDay 83 = .ok (.goto (-39), 3) := by decide +kernel
theorem dX12_keepsDay_86 : decode cX12_keepsDay 86 = .ok (.iinc 3 1, 3) := by decide +kernel
theorem dX12_keepsDay_89 : decode cX12_keepsDay 89 = .ok (.goto (-61), 3) := by decide +kernel
theorem dX12_keepsDay_92 : decode cX12_keepsDay 92 = .ok (.iinc 2 1, 3) := by decide +kernel
theorem dX12_keepsDay_95 : decode cX12_keepsDay 95 = .ok (.goto (-93), 3) := by decide +kernel
theorem dX12_keepsDay_98 : decode cX12_keepsDay 98 = .ok (.return_, 1) := by decide +kernel
theorem dX12_isAgain_0 : decode cX12_isAgain 0 = .ok (.iconst 0, 1) := by decide +kernel
theorem dX12_isAgain_1 : decode cX12_isAgain 1 = .ok (.istore_n 3, 1) := by decide +kernel
theorem dX12_isAgain_2 : decode cX12_isAgain 2 = .ok (.iload_n 3, 1) := by decide +kernel
theorem dX12_isAgain_3 : decode cX12_isAgain 3 = .ok (.iconst 2, 1) := by decide +kernel
theorem dX12_isAgain_4 : decode cX12_isAgain 4 = .ok (.if_icmp .ge 101, 3) := by decide +kernel
theorem dX12_isAgain_7 : decode cX12_isAgain 7 = .ok (.aload_n 0, 1) := by decide +kernel
theorem dX12_isAgain_8 : decode cX12_isAgain 8 = .ok (.getfield 63, 3) := by decide +kernel
theorem dX12_isAgain_11 : decode cX12_isAgain 11 = .ok (.iconst 2, 1) := by decide +kernel
theorem dX12_isAgain_12 : decode cX12_isAgain 12 = .ok (.iload_n 1, 1) := by decide +kernel
theorem dX12_isAgain_13 : decode cX12_isAgain 13 = .ok (.imul, 1) := by decide +kernel
theorem dX12_isAgain_14 : decode cX12_isAgain 14 = .ok (.iload_n 3, 1) := by decide +kernel
theorem dX12_isAgain_15 : decode cX12_isAgain 15 = .ok (.iadd, 1) := by decide +kernel
theorem dX12_isAgain_16 : decode cX12_isAgain 16 = .ok (.iaload, 1) := by decide +kernel
theorem dX12_isAgain_17 : decode cX12_isAgain 17 = .ok (.aload_n 0, 1) := by decide +kernel
theorem dX12_isAgain_18 : decode cX12_isAgain 18 = .ok (.getfield 63, 3) := by decide +kernel
theorem dX12_isAgain_21 : decode cX12_isAgain 21 = .ok (.iconst 2, 1) := by decide +kernel
theorem dX12_isAgain_22 : decode cX12_isAgain 22 = .ok (.iload_n 2, 1) := by decide +kernel
theorem dX12_isAgain_23 : decode cX12_isAgain 23 = .ok (.imul, 1) := by decide +kernel
theorem dX12_isAgain_24 : decode cX12_isAgain 24 = .ok (.iload_n 3, 1) := by decide +kernel
theorem dX12_isAgain_25 : decode cX12_isAgain 25 = .ok (.iadd, 1) := by decide +kernel
theorem dX12_isAgain_26 : decode cX12_isAgain 26 = .ok (.iaload, 1) := by decide +kernel
theorem dX12_isAgain_27 : decode cX12_isAgain 27 = .ok (.if_icmp .eq 5, 3) := by decide +kernel
theorem dX12_isAgain_30 : decode cX12_isAgain 30 = .ok (.iconst 0, 1) := by decide +kernel
theorem dX12_isAgain_31 : decode cX12_isAgain 31 = .ok (.ireturn, 1) := by decide +kernel
theorem dX12_isAgain_32 : decode cX12_isAgain 32 = .ok (.iconst 0, 1) := by decide +kernel
theorem dX12_isAgain_33 : decode cX12_isAgain 33 = .ok (.istore 4, 2) := by decide +kernel
theorem dX12_isAgain_35 : decode cX12_isAgain 35 = .ok (.iload 4, 2) := by decide +kernel
theorem dX12_isAgain_37 : decode cX12_isAgain 37 = .ok (.iconst 2, 1) := by decide +kernel
theorem dX12_isAgain_38 : decode cX12_isAgain 38 = .ok (.aload_n 0, 1) := by decide +kernel
theorem dX12_isAgain_39 : decode cX12_isAgain 39 = .ok (.getfield 63, 3) := by decide +kernel
theorem dX12_isAgain_42 : decode cX12_isAgain 42 = .ok (.iconst 2, 1) := by decide +kernel
theorem dX12_isAgain_43 : decode cX12_isAgain 43 = .ok (.iload_n 1, 1) := by decide +kernel
theorem dX12_isAgain_44 : decode cX12_isAgain 44 = .ok (.imul, 1) := by decide +kernel
theorem dX12_isAgain_45 : decode cX12_isAgain 45 = .ok (.iload_n 3, 1) := by decide +kernel
theorem dX12_isAgain_46 : decode cX12_isAgain 46 = .ok (.iadd, 1) := by decide +kernel
theorem dX12_isAgain_47 : decode cX12_isAgain 47 = .ok (.iaload, 1) := by decide +kernel
theorem dX12_isAgain_48 : decode cX12_isAgain 48 = .ok (.imul, 1) := by decide +kernel
theorem dX12_isAgain_49 : decode cX12_isAgain 49 = .ok (.if_icmp .ge 50, 3) := by decide +kernel
theorem dX12_isAgain_52 : decode cX12_isAgain 52 = .ok (.aload_n 0, 1) := by decide +kernel
theorem dX12_isAgain_53 : decode cX12_isAgain 53 = .ok (.getfield 67, 3) := by decide +kernel
theorem dX12_isAgain_56 : decode cX12_isAgain 56 = .ok (.sipush 160, 3) := by decide +kernel
theorem dX12_isAgain_59 : decode cX12_isAgain 59 = .ok (.iload_n 1, 1) := by decide +kernel
theorem dX12_isAgain_60 : decode cX12_isAgain 60 = .ok (.imul, 1) := by decide +kernel
theorem dX12_isAgain_61 : decode cX12_isAgain 61 = .ok (.bipush 80, 2) := by decide +kernel
theorem dX12_isAgain_63 : decode cX12_isAgain 63 = .ok (.iload_n 3, 1) := by decide +kernel
theorem dX12_isAgain_64 : decode cX12_isAgain 64 = .ok (.imul, 1) := by decide +kernel
theorem dX12_isAgain_65 : decode cX12_isAgain 65 = .ok (.iadd, 1) := by decide +kernel
theorem dX12_isAgain_66 : decode cX12_isAgain 66 = .ok (.iload 4, 2) := by decide +kernel
theorem dX12_isAgain_68 : decode cX12_isAgain 68 = .ok (.iadd, 1) := by decide +kernel
theorem dX12_isAgain_69 : decode cX12_isAgain 69 = .ok (.iaload, 1) := by decide +kernel
theorem dX12_isAgain_70 : decode cX12_isAgain 70 = .ok (.aload_n 0, 1) := by decide +kernel
theorem dX12_isAgain_71 : decode cX12_isAgain 71 = .ok (.getfield 67, 3) := by decide +kernel
theorem dX12_isAgain_74 : decode cX12_isAgain 74 = .ok (.sipush 160, 3) := by decide +kernel
theorem dX12_isAgain_77 : decode cX12_isAgain 77 = .ok (.iload_n 2, 1) := by decide +kernel
theorem dX12_isAgain_78 : decode cX12_isAgain 78 = .ok (.imul, 1) := by decide +kernel
theorem dX12_isAgain_79 : decode cX12_isAgain 79 = .ok (.bipush 80, 2) := by decide +kernel
theorem dX12_isAgain_81 : decode cX12_isAgain 81 = .ok (.iload_n 3, 1) := by decide +kernel
theorem dX12_isAgain_82 : decode cX12_isAgain 82 = .ok (.imul, 1) := by decide +kernel
theorem dX12_isAgain_83 : decode cX12_isAgain 83 = .ok (.iadd, 1) := by decide +kernel
theorem dX12_isAgain_84 : decode cX12_isAgain 84 = .ok (.iload 4, 2) := by decide +kernel
theorem dX12_isAgain_86 : decode cX12_isAgain 86 = .ok (.iadd, 1) := by decide +kernel
theorem dX12_isAgain_87 : decode cX12_isAgain 87 = .ok (.iaload, 1) := by decide +kernel
theorem dX12_isAgain_88 : decode cX12_isAgain 88 = .ok (.if_icmp .eq 5, 3) := by decide +kernel
theorem dX12_isAgain_91 : decode cX12_isAgain 91 = .ok (.iconst 0, 1) := by decide +kernel
theorem dX12_isAgain_92 : decode cX12_isAgain 92 = .ok (.ireturn, 1) := by decide +kernel
theorem dX12_isAgain_93 : decode cX12_isAgain 93 = .ok (.iinc 4 1, 3) := by decide +kernel
theorem dX12_isAgain_96 : decode cX12_isAgain 96 = .ok (.goto (-61), 3) := by decide +kernel
theorem dX12_isAgain_99 : decode cX12_isAgain 99 = .ok (.iinc 3 1, 3) := by decide +kernel
theorem dX12_isAgain_102 : decode cX12_isAgain 102 = .ok (.goto (-100), 3) := by decide +kernel
theorem dX12_isAgain_105 : decode cX12_isAgain 105 = .ok (.iconst 1, 1) := by decide +kernel
theorem dX12_isAgain_106 : decode cX12_isAgain 106 = .ok (.ireturn, 1) := by decide +kernel
set_option maxRecDepth 20000 in
theorem ggX12_zigs_X12_isMet : GoodIn wsX12_zigs wsX12_isMet := goodIn_r _ [5, 6, 7, 8, 4, 9, 10, 87, 88, 89, 90, 91, 92, 93, 94, 95, 96, 97, 98, 99, 100, 101, 102, 103, 104, 105, 106, 107, 108, 109, 110, 111, 112, 113, 114, 115, 116, 117, 118, 119, 120, 121, 122, 123, 124, 125, 126, 127, 128] rfl (by decide +kernel)
set_option maxRecDepth 20000 in
theorem gX12_zigs_X12_isMet : GoodIn wsX12_zigs (wsV RX12 393 RX12 yX12_isMet wsX12_isMet) := goodIn_app (goodIn_of _ (by decide +kernel)) ggX12_zigs_X12_isMet
set_option maxRecDepth 20000 in
theorem ggX12_zigs_X12_looks : GoodIn wsX12_zigs wsX12_looks := goodIn_r _ [14, 15, 16, 17, 10, 18, 19, 20, 21, 4, 22, 23, 24, 25, 26, 27, 28, 29, 30, 31, 6, 7, 8, 9, 32, 33, 34, 35, 36, 37, 38, 39, 40, 41, 42, 43, 44, 45, 46, 47, 48, 49, 50, 51, 52, 53, 54, 55, 56, 57, 58, 59, 60, 61, 62, 63, 64, 65, 66, 67, 68, 69, 70, 71, 87, 88, 89, 90, 91, 92, 93, 94, 95, 96, 97, 98, 99, 100, 101, 102, 103, 104, 105, 106, 107, 108, 109, 110, 111, 112, 113, 114, 115, 116, 117, 118, 119, 120, 121, 122, 123, 124, 125, 126, 127, 128] rfl (by decide +kernel)
set_option maxRecDepth 20000 in
theorem gX12_zigs_X12_looks : GoodIn wsX12_zigs (wsV RX12 384 RX12 yX12_looks wsX12_looks) := goodIn_app (goodIn_of _ (by decide +kernel)) ggX12_zigs_X12_looks
set_option maxRecDepth 20000 in
theorem ggX12_zigs_X12_acts : GoodIn wsX12_zigs wsX12_acts := goodIn_r _ [75, 15, 16, 17, 76, 77, 78, 4, 79, 10, 80, 81, 82, 6, 7, 8, 9, 83, 84, 85, 86, 19, 20, 21, 22, 23, 24, 25, 26, 87, 88, 89, 90, 91, 92, 93, 94, 95, 96, 97, 98, 99, 100, 101, 102, 103, 104, 105, 106, 107, 108, 109, 110, 111, 112, 113, 114, 115, 116, 117, 118, 119, 120, 121, 122, 123, 124, 125, 126, 127, 128] rfl (by decide +kernel)
set_option maxRecDepth 20000 in
theorem gX12_zigs_X12_acts : GoodIn wsX12_zigs (wsV RX12 387 RX12 yX12_acts wsX12_acts) := goodIn_app (goodIn_of _ (by decide +kernel)) ggX12_zigs_X12_acts
theorem dX12_zigs_0 : decode cX12_zigs 0 = .ok (.aload_n 0, 1) := by decide +kernel
theorem dX12_zigs_1 : decode cX12_zigs 1 = .ok (.invokevirtual 393, 3) := by decide +kernel
theorem dX12_zigs_4 : decode cX12_zigs 4 = .ok (.ifCond .eq 4, 3) := by decide +kernel
theorem dX12_zigs_7 : decode cX12_zigs 7 = .ok (.return_, 1) := by decide +kernel
theorem dX12_zigs_8 : decode cX12_zigs 8 = .ok (.aload_n 0, 1) := by decide +kernel
theorem dX12_zigs_9 : decode cX12_zigs 9 = .ok (.iconst 0, 1) := by decide +kernel
theorem dX12_zigs_10 : decode cX12_zigs 10 = .ok (.iload_n 1, 1) := by decide +kernel
theorem dX12_zigs_11 : decode cX12_zigs 11 = .ok (.invokevirtual 384, 3) := by decide +kernel
theorem dX12_zigs_14 : decode cX12_zigs 14 = .ok (.aload_n 0, 1) := by decide +kernel
theorem dX12_zigs_15 : decode cX12_zigs 15 = .ok (.iconst 1, 1) := by decide +kernel
theorem dX12_zigs_16 : decode cX12_zigs 16 = .ok (.iload_n 2, 1) := by decide +kernel
theorem dX12_zigs_17 : decode cX12_zigs 17 = .ok (.invokevirtual 384, 3) := by decide +kernel
theorem dX12_zigs_20 : decode cX12_zigs 20 = .ok (.aload_n 0, 1) := by decide +kernel
theorem dX12_zigs_21 : decode cX12_zigs 21 = .ok (.iconst 0, 1) := by decide +kernel
theorem dX12_zigs_22 : decode cX12_zigs 22 = .ok (.invokevirtual 387, 3) := by decide +kernel
theorem dX12_zigs_25 : decode cX12_zigs 25 = .ok (.aload_n 0, 1) := by decide +kernel
theorem dX12_zigs_26 : decode cX12_zigs 26 = .ok (.iconst 1, 1) := by decide +kernel
theorem dX12_zigs_27 : decode cX12_zigs 27 = .ok (.invokevirtual 387, 3) := by decide +kernel
theorem dX12_zigs_30 : decode cX12_zigs 30 = .ok (.return_, 1) := by decide +kernel
set_option maxRecDepth 20000 in
theorem ggX12_zigzag_X12_canAsk : GoodIn wsX12_zigzag wsX12_canAsk := goodIn_r _ [5, 6, 7, 8, 4, 9, 10, 11, 12, 13, 14, 15, 130, 131, 132, 133, 134, 135, 136, 137, 138, 139, 140, 141, 142, 143, 144, 145, 146, 147, 148, 149, 150, 151, 152, 153, 154, 155, 156, 157, 158, 159, 160, 161, 162, 163, 164, 165, 166, 167, 168, 169, 170, 171] rfl (by decide +kernel)
set_option maxRecDepth 20000 in
theorem gX12_zigzag_X12_canAsk : GoodIn wsX12_zigzag (wsV RX12 402 RX12 yX12_canAsk wsX12_canAsk) := goodIn_app (goodIn_of _ (by decide +kernel)) ggX12_zigzag_X12_canAsk
set_option maxRecDepth 20000 in
theorem ggX12_zigzag_X12_in : GoodIn wsX12_zigzag wsX12_in := goodIn_r _ [18] rfl (by decide +kernel)
set_option maxRecDepth 20000 in
theorem gX12_zigzag_X12_in : GoodIn wsX12_zigzag (va_wsS RX12 131 yX12_in wsX12_in) := goodIn_app (goodIn_of _ (by decide +kernel)) ggX12_zigzag_X12_in
set_option maxRecDepth 20000 in
theorem ggX12_zigzag_X12_keeps : GoodIn wsX12_zigzag wsX12_keeps := goodIn_r _ [22, 23, 10, 130, 131, 132, 133, 134, 135, 136, 137, 138, 139, 140, 141, 142, 143, 144, 145, 146, 147, 148, 149, 150, 151, 152, 153, 154, 155, 156, 157, 158, 159, 160, 161, 162, 163, 164, 165, 166, 167, 168, 169, 170, 171] rfl (by decide +kernel)
set_option maxRecDepth 20000 in
theorem gX12_zigzag_X12_keeps : GoodIn wsX12_zigzag (wsV RX12 420 RX12 yX12_keeps wsX12_keeps) := goodIn_app (goodIn_of _ (by decide +kernel)) ggX12_zigzag_X12_keeps
set_option maxRecDepth 20000 in
theorem ggX12_zigzag_X12_errsAsTold : GoodIn wsX12_zigzag wsX12_errsAsTold := goodIn_r _ [27, 28, 10, 130, 131, 132, 133, 134, 135, 136, 137, 138, 139, 140, 141, 142, 143, 144, 145, 146, 147, 148, 149, 150, 151, 152, 153, 154, 155, 156, 157, 158, 159, 160, 161, 162, 163, 164, 165, 166, 167, 168, 169, 170, 171] rfl (by decide +kernel)
set_option maxRecDepth 20000 in
theorem gX12_zigzag_X12_errsAsTold : GoodIn wsX12_zigzag (wsV RX12 345 RX12 yX12_errsAsTold wsX12_errsAsTold) := goodIn_app (goodIn_of _ (by decide +kernel)) ggX12_zigzag_X12_errsAsTold
set_option maxRecDepth 20000 in
theorem ggX12_zigzag_X12_keepsDay : GoodIn wsX12_zigzag wsX12_keepsDay := goodIn_r _ [32, 33, 10, 34, 35, 36, 37, 4, 38, 130, 131, 132, 133, 134, 135, 136, 137, 138, 139, 140, 141, 142, 143, 144, 145, 146, 147, 148, 149, 150, 151, 152, 153, 154, 155, 156, 157, 158, 159, 160, 161, 162, 163, 164, 165, 166, 167, 168, 169, 170, 171] rfl (by decide +kernel)
set_option maxRecDepth 20000 in
theorem gX12_zigzag_X12_keepsDay : GoodIn wsX12_zigzag (wsV RX12 426 RX12 yX12_keepsDay wsX12_keepsDay) := goodIn_app (goodIn_of _ (by decide +kernel)) ggX12_zigzag_X12_keepsDay
set_option maxRecDepth 20000 in
theorem ggX12_zigzag_X12_zigs : GoodIn wsX12_zigzag wsX12_zigs := goodIn_r _ [42, 43, 44, 45, 4, 46, 47, 48, 49, 50, 10, 51, 52, 53, 54, 55, 56, 57, 58, 59, 60, 61, 62, 35, 36, 37, 38, 63, 64, 65, 66, 28, 67, 68, 69, 70, 71, 72, 73, 74, 75, 76, 77, 78, 79, 80, 81, 82, 83, 84, 85, 86, 87, 88, 89, 90, 91, 92, 93, 94, 95, 96, 97, 98, 99, 100, 101, 102, 103, 104, 105, 106, 107, 108, 109, 110, 111, 112, 113, 114, 115, 116, 117, 118, 119, 120, 121, 130, 131, 132, 133, 134, 135, 136, 137, 138, 139, 140, 141, 142, 143, 144, 145, 146, 147, 148, 149, 150, 151, 152, 153, 154, 155, 156, 157, 158, 159, 160, 161, 162, 163, 164, 165, 166, 167, 168, 169, 170, 171] rfl (by decide +kernel)
set_option maxRecDepth 20000 in
theorem gX12_zigzag_X12_zigs : GoodIn wsX12_zigzag (wsV RX12 429 RX12 yX12_zigs wsX12_zigs) := goodIn_app (goodIn_of _ (by decide +kernel)) ggX12_zigzag_X12_zigs
set_option maxRecDepth 20000 in
theorem ggX12_zigzag_X12_isAgain : GoodIn wsX12_zigzag wsX12_isAgain := goodIn_r _ [125, 33, 34, 130, 131, 132, 133, 134, 135, 136, 137, 138, 139, 140, 141, 142, 143, 144, 145, 146, 147, 148, 149, 150, 151, 152, 153, 154, 155, 156, 157, 158, 159, 160, 161, 162, 163, 164, 165, 166, 167, 168, 169, 170, 171] rfl (by decide +kernel)
set_option maxRecDepth 20000 in
theorem gX12_zigzag_X12_isAgain : GoodIn wsX12_zigzag (wsV RX12 432 RX12 yX12_isAgain wsX12_isAgain) := goodIn_app (goodIn_of _ (by decide +kernel)) ggX12_zigzag_X12_isAgain
set_option maxRecDepth 20000 in
theorem ggX12_zigzag_X12_putsBack : GoodIn wsX12_zigzag wsX12_putsBack := goodIn_r _ [129, 10, 23, 130, 131, 132, 133, 134, 135, 136, 137, 138, 139, 140, 141, 142, 143, 144, 145, 146, 147, 148, 149, 150, 151, 152, 153, 154, 155, 156, 157, 158, 159, 160, 161, 162, 163, 164, 165, 166, 167, 168, 169, 170, 171] rfl (by decide +kernel)
set_option maxRecDepth 20000 in
theorem gX12_zigzag_X12_putsBack : GoodIn wsX12_zigzag (wsV RX12 423 RX12 yX12_putsBack wsX12_putsBack) := goodIn_app (goodIn_of _ (by decide +kernel)) ggX12_zigzag_X12_putsBack
theorem dX12_zigzag_0 : decode cX12_zigzag 0 = .ok (.aload_n 0, 1) := by decide +kernel
theorem dX12_zigzag_1 : decode cX12_zigzag 1 = .ok (.iload_n 1, 1) := by decide +kernel
theorem dX12_zigzag_2 : decode cX12_zigzag 2 = .ok (.iload_n 2, 1) := by decide +kernel
theorem dX12_zigzag_3 : decode cX12_zigzag 3 = .ok (.invokevirtual 402, 3) := by decide +kernel
theorem dX12_zigzag_6 : decode cX12_zigzag 6 = .ok (.ifCond .eq 13, 3) := by decide +kernel
theorem dX12_zigzag_9 : decode cX12_zigzag 9 = .ok (.iload_n 3, 1) := by decide +kernel
theorem dX12_zigzag_10 : decode cX12_zigzag 10 = .ok (.i2l, 1) := by decide +kernel
theorem dX12_zigzag_11 : decode cX12_zigzag 11 = .ok (.lconst 0, 1) := by decide +kernel
theorem dX12_zigzag_12 : decode cX12_zigzag 12 = .ok (.lconst 1, 1) := by decide +kernel
theorem dX12_zigzag_13 : decode cX12_zigzag 13 = .ok (.invokestatic 131, 3) := by decide +kernel
theorem dX12_zigzag_16 : decode cX12_zigzag 16 = .ok (.ifCond .ne 5, 3) := by decide +kernel
theorem dX12_zigzag_19 : decode cX12_zigzag 19 = .ok (.iconst (-1), 1) := by decide +kernel
theorem dX12_zigzag_20 : decode cX12_zigzag 20 = .ok (.ireturn, 1) := by decide +kernel
theorem dX12_zigzag_21 : decode cX12_zigzag 21 = .ok (.aload_n 0, 1) := by decide +kernel
theorem dX12_zigzag_22 : decode cX12_zigzag 22 = .ok (.invokevirtual 420, 3) := by decide +kernel
theorem dX12_zigzag_25 : decode cX12_zigzag 25 = .ok (.aload_n 0, 1) := by decide +kernel
theorem dX12_zigzag_26 : decode cX12_zigzag 26 = .ok (.invokevirtual 345, 3) := by decide +kernel
theorem dX12_zigzag_29 : decode cX12_zigzag 29 = .ok (.aload_n 0, 1) := by decide +kernel
theorem dX12_zigzag_30 : decode cX12_zigzag 30 = .ok (.iconst 0, 1) := by decide +kernel
theorem dX12_zigzag_31 : decode cX12_zigzag 31 = .ok (.invokevirtual 426, 3) := by decide +kernel
theorem dX12_zigzag_34 : decode cX12_zigzag 34 = .ok (.bipush (-2), 2) := by decide +kernel
theorem dX12_zigzag_36 : decode cX12_zigzag 36 = .ok (.istore 4, 2) := by decide +kernel
theorem dX12_zigzag_38 : decode cX12_zigzag 38 = .ok (.iconst 1, 1) := by decide +kernel
theorem dX12_zigzag_39 : decode cX12_zigzag 39 = .ok (.istore 5, 2) := by decide +kernel
theorem dX12_zigzag_41 : decode cX12_zigzag 41 = .ok (.iload 5, 2) := by decide +kernel
theorem dX12_zigzag_43 : decode cX12_zigzag 43 = .ok (.sipush 300, 3) := by decide +kernel
theorem dX12_zigzag_46 : decode cX12_zigzag 46 = .ok (.if_icmp .gt 74, 3) := by decide +kernel
theorem dX12_zigzag_49 : decode cX12_zigzag 49 = .ok (.iload 4, 2) := by decide +kernel
theorem dX12_zigzag_51 : decode cX12_zigzag 51 = .ok (.ifCond .ge 69, 3) := by decide +kernel
theorem dX12_zigzag_54 : decode cX12_zigzag 54 = .ok (.aload_n 0, 1) := by decide +kernel
theorem dX12_zigzag_55 : decode cX12_zigzag 55 = .ok (.iload_n 1, 1) := by decide +kernel
theorem dX12_zigzag_56 : decode cX12_zigzag 56 = .ok (.iload_n 2, 1) := by decide +kernel
theorem dX12_zigzag_57 : decode cX12_zigzag 57 = .ok (.invokevirtual 429, 3) := by decide +kernel
theorem dX12_zigzag_60 : decode cX12_zigzag 60 = .ok (.aload_n 0, 1) := by decide +kernel
theorem dX12_zigzag_61 : decode cX12_zigzag 61 = .ok (.iload 5, 2) := by decide +kernel
theorem dX12_zigzag_63 : decode cX12_zigzag 63 = .ok (.invokevirtual 426, 3) := by decide +kernel
theorem dX12_zigzag_66 : decode cX12_zigzag 66 = .ok (.iconst 0, 1) := by decide +kernel
theorem dX12_zigzag_67 : decode cX12_zigzag 67 = .ok (.istore 6, 2) := by decide +kernel
theorem dX12_zigzag_69 : decode cX12_zigzag 69 = .ok (.iload 6, 2) := by decide +kernel
theorem dX12_zigzag_71 : decode cX12_zigzag 71 = .ok (.iload 5, 2) := by decide +kernel
theorem dX12_zigzag_73 : decode cX12_zigzag 73 = .ok (.if_icmp .ge 41, 3) := by decide +kernel
theorem dX12_zigzag_76 : decode cX12_zigzag 76 = .ok (.iload 4, 2) := by decide +kernel
theorem dX12_zigzag_78 : decode cX12_zigzag 78 = .ok (.ifCond .ge 36, 3) := by decide +kernel
theorem dX12_zigzag_81 : decode cX12_zigzag 81 = .ok (.aload_n 0, 1) := by decide +kernel
theorem dX12_zigzag_82 : decode cX12_zigzag 82 = .ok (.iload 5, 2) := by decide +kernel
theorem dX12_zigzag_84 : decode cX12_zigzag 84 = .ok (.iload 6, 2) := by decide +kernel
theorem dX12_zigzag_86 : decode cX12_zigzag 86 = .ok (.invokevirtual 432, 3) := by decide +kernel
theorem dX12_zigzag_89 : decode cX12_zigzag 89 = .ok (.ifCond .eq 19, 3) := by decide +kernel
theorem dX12_zigzag_92 : decode cX12_zigzag 92 = .ok (.iload_n 3, 1) := by decide +kernel
theorem dX12_zigzag_93 : decode cX12_zigzag 93 = .ok (.ifCond .ne 8, 3) := by decide +kernel
theorem dX12_zigzag_96 : decode cX12_zigzag 96 = .ok (.iload 6, 2) := by decide +kernel
theorem dX12_zigzag_98 : decode cX12_zigzag 98 = .ok (.goto 8, 3) := by decide +kernel
theorem dX12_zigzag_101 : decode cX12_zigzag 101 = .ok (.iload 5, 2) := by decide +kernel
theorem dX12_zigzag_103 : decode cX12_zigzag 103 = .ok (.iload 6, 2) := by decide +kernel
theorem dX12_zigzag_105 : decode cX12_zigzag 105 = .ok (.isub, 1) := by decide +kernel
theorem dX12_zigzag_106 : decode cX12_zigzag 106 = .ok (.istore 4, 2) := by decide +kernel
theorem dX12_zigzag_108 : decode cX12_zigzag 108 = .ok (.iinc 6 1, 3) := by decide +kernel
theorem dX12_zigzag_111 : decode cX12_zigzag 111 = .ok (.goto (-42), 3) := by decide +kernel
theorem dX12_zigzag_114 : decode cX12_zigzag 114 = .ok (.iinc 5 1, 3) := by decide +kernel
theorem dX12_zigzag_117 : decode cX12_zigzag 117 = .ok (.goto (-76), 3) := by decide +kernel
theorem dX12_zigzag_120 : decode cX12_zigzag 120 = .ok (.aload_n 0, 1) := by decide +kernel
theorem dX12_zigzag_121 : decode cX12_zigzag 121 = .ok (.invokevirtual 423, 3) := by decide +kernel
theorem dX12_zigzag_124 : decode cX12_zigzag 124 = .ok (.iload 4, 2) := by decide +kernel
theorem dX12_zigzag_126 : decode cX12_zigzag 126 = .ok (.ireturn, 1) := by decide +kernel
set_option maxRecDepth 20000 in
theorem ggX12_whatever_X12_canAsk : GoodIn wsX12_whatever wsX12_canAsk := goodIn_r _ [9, 10, 11, 12, 8, 13, 14, 15, 16, 17, 18, 19, 141, 142, 143, 144, 145, 146, 147, 148, 149, 150, 151, 152, 153, 154, 155, 156, 157, 158, 159, 160, 161, 162, 163, 164, 165, 166, 167, 168, 169, 170, 171, 172, 173, 174, 175, 176, 177, 178, 179, 180, 181, 182] rfl (by decide +kernel)
set_option maxRecDepth 20000 in
theorem gX12_whatever_X12_canAsk : GoodIn wsX12_whatever (wsV RX12 402 RX12 yX12_canAsk wsX12_canAsk) := goodIn_app (goodIn_of _ (by decide +kernel)) ggX12_whatever_X12_canAsk
set_option maxRecDepth 20000 in
theorem ggX12_whatever_X12_in : GoodIn wsX12_whatever wsX12_in := goodIn_r _ [22] rfl (by decide +kernel)
set_option maxRecDepth 20000 in
theorem gX12_whatever_X12_in : GoodIn wsX12_whatever (va_wsS RX12 131 yX12_in wsX12_in) := goodIn_app (goodIn_of _ (by decide +kernel)) ggX12_whatever_X12_in
set_option maxRecDepth 20000 in
theorem ggX12_whatever_X12_isSide : GoodIn wsX12_whatever wsX12_isSide := goodIn_r _ [25] rfl (by decide +kernel)
set_option maxRecDepth 20000 in
theorem gX12_whatever_X12_isSide : GoodIn wsX12_whatever (va_wsS RX12 334 yX12_isSide wsX12_isSide) := goodIn_app (goodIn_of _ (by decide +kernel)) ggX12_whatever_X12_isSide
set_option maxRecDepth 20000 in
theorem ggX12_whatever_X12_keeps : GoodIn wsX12_whatever wsX12_keeps := goodIn_r _ [29, 30, 14, 141, 142, 143, 144, 145, 146, 147, 148, 149, 150, 151, 152, 153, 154, 155, 156, 157, 158, 159, 160, 161, 162, 163, 164, 165, 166, 167, 168, 169, 170, 171, 172, 173, 174, 175, 176, 177, 178, 179, 180, 181, 182] rfl (by decide +kernel)
set_option maxRecDepth 20000 in
theorem gX12_whatever_X12_keeps : GoodIn wsX12_whatever (wsV RX12 420 RX12 yX12_keeps wsX12_keeps) := goodIn_app (goodIn_of _ (by decide +kernel)) ggX12_whatever_X12_keeps
set_option maxRecDepth 20000 in
theorem ggX12_whatever_X12_isMet : GoodIn wsX12_whatever wsX12_isMet := goodIn_r _ [34, 35, 36, 37, 8, 38, 14, 141, 142, 143, 144, 145, 146, 147, 148, 149, 150, 151, 152, 153, 154, 155, 156, 157, 158, 159, 160, 161, 162, 163, 164, 165, 166, 167, 168, 169, 170, 171, 172, 173, 174, 175, 176, 177, 178, 179, 180, 181, 182] rfl (by decide +kernel)
set_option maxRecDepth 20000 in
theorem gX12_whatever_X12_isMet : GoodIn wsX12_whatever (wsV RX12 393 RX12 yX12_isMet wsX12_isMet) := goodIn_app (goodIn_of _ (by decide +kernel)) ggX12_whatever_X12_isMet
set_option maxRecDepth 20000 in
theorem ggX12_whatever_X12_errsAsTold : GoodIn wsX12_whatever wsX12_errsAsTold := goodIn_r _ [42, 4, 14, 141, 142, 143, 144, 145, 146, 147, 148, 149, 150, 151, 152, 153, 154, 155, 156, 157, 158, 159, 160, 161, 162, 163, 164, 165, 166, 167, 168, 169, 170, 171, 172, 173, 174, 175, 176, 177, 178, 179, 180, 181, 182] rfl (by decide +kernel)
set_option maxRecDepth 20000 in
theorem gX12_whatever_X12_errsAsTold : GoodIn wsX12_whatever (wsV RX12 345 RX12 yX12_errsAsTold wsX12_errsAsTold) := goodIn_app (goodIn_of _ (by decide +kernel)) ggX12_whatever_X12_errsAsTold
set_option maxRecDepth 20000 in
theorem ggX12_whatever_X12_passes : GoodIn wsX12_whatever wsX12_passes := goodIn_r _ [46, 14, 47, 48, 49, 8, 50, 51, 52, 53, 54, 55, 56, 57, 58, 59, 60, 61, 62, 63, 64, 65, 66, 4, 35, 36, 37, 38, 67, 68, 69, 70, 71, 72, 73, 74, 75, 76, 77, 78, 79, 80, 81, 82, 83, 84, 85, 86, 87, 88, 89, 90, 91, 92, 93, 94, 95, 96, 97, 98, 99, 100, 101, 102, 103, 104, 105, 106, 107, 108, 109, 110, 111, 112, 113, 114, 115, 116, 117, 118, 119, 120, 121, 122, 123, 124, 125, 141, 142, 143, 144, 145, 146, 147, 148, 149, 150, 151, 152, 153, 154, 155, 156, 157, 158, 159, 160, 161, 162, 163, 164, 165, 166, 167, 168, 169, 170, 171, 172, 173, 174, 175, 176, 177, 178, 179, 180, 181, 182] rfl (by decide +kernel)
set_option maxRecDepth 20000 in
theorem gX12_whatever_X12_passes : GoodIn wsX12_whatever (wsV RX12 396 RX12 yX12_passes wsX12_passes) := goodIn_app (goodIn_of _ (by decide +kernel)) ggX12_whatever_X12_passes
set_option maxRecDepth 20000 in
theorem ggX12_whatever_X12_isInTime : GoodIn wsX12_whatever wsX12_isInTime := goodIn_r _ [129, 14, 31, 32, 33, 8, 34, 35, 36, 37, 38, 130, 131, 132, 133, 55, 56, 57, 58, 59, 60, 61, 62, 134, 135, 136, 141, 142, 143, 144, 145, 146, 147, 148, 149, 150, 151, 152, 153, 154, 155, 156, 157, 158, 159, 160, 161, 162, 163, 164, 165, 166, 167, 168, 169, 170, 171, 172, 173, 174, 175, 176, 177, 178, 179, 180, 181, 182] rfl (by decide +kernel)
set_option maxRecDepth 20000 in
theorem gX12_whatever_X12_isInTime : GoodIn wsX12_whatever (wsV RX12 413 RX12 yX12_isInTime wsX12_isInTime) := goodIn_app (goodIn_of _ (by decide +kernel)) ggX12_whatever_X12_isInTime
set_option maxRecDepth 20000 in
theorem ggX12_whatever_X12_putsBack : GoodIn wsX12_whatever wsX12_putsBack := goodIn_r _ [140, 14, 30, 141, 142, 143, 144, 145, 146, 147, 148, 149, 150, 151, 152, 153, 154, 155, 156, 157, 158, 159, 160, 161, 162, 163, 164, 165, 166, 167, 168, 169, 170, 171, 172, 173, 174, 175, 176, 177, 178, 179, 180, 181, 182] rfl (by decide +kernel)
set_option maxRecDepth 20000 in
theorem gX12_whatever_X12_putsBack : GoodIn wsX12_whatever (wsV RX12 423 RX12 yX12_putsBack wsX12_putsBack) := goodIn_app (goodIn_of _ (by decide +kernel)) ggX12_whatever_X12_putsBack
theorem dX12_whatever_0 : decode cX12_whatever 0 = .ok (.aload_n 0, 1) := by decide +kernel
theorem dX12_whatever_1 : decode cX12_whatever 1 = .ok (.iload_n 1, 1) := by decide +kernel
theorem dX12_whatever_2 : decode cX12_whatever 2 = .ok (.iload_n 2, 1) := by decide +kernel
theorem dX12_whatever_3 : decode cX12_whatever 3 = .ok (.invokevirtual 402, 3) := by decide +kernel
theorem dX12_whatever_6 : decode cX12_whatever 6 = .ok (.ifCond .eq 49, 3) := by decide +kernel
theorem dX12_whatever_9 : decode cX12_whatever 9 = .ok (.iload_n 3, 1) := by decide +kernel
theorem dX12_whatever_10 : decode cX12_whatever 10 = .ok (.i2l, 1) := by decide +kernel
theorem dX12_whatever_11 : decode cX12_whatever 11 = .ok (.lconst 0, 1) := by decide +kernel
theorem dX12_whatever_12 : decode cX12_whatever 12 = .ok (.ldc2_w 435, 3) := by decide +kernel
theorem dX12_whatever_15 : decode cX12_whatever 15 = .ok (.invokestatic 131, 3) := by decide +kernel
theorem dX12_whatever_18 : decode cX12_whatever 18 = .ok (.ifCond .eq 37, 3) := by decide +kernel
theorem dX12_whatever_21 : decode cX12_whatever 21 = .ok (.iload 4, 2) := by decide +kernel
theorem dX12_whatever_23 : decode cX12_whatever 23 = .ok (.invokestatic 334, 3) := by decide +kernel
theorem dX12_whatever_26 : decode cX12_whatever 26 = .ok (.ifCond .eq 29, 3) := by decide +kernel
theorem dX12_whatever_29 : decode cX12_whatever 29 = .ok (.iload 5, 2) := by decide +kernel
theorem dX12_whatever_31 : decode cX12_whatever 31 = .ok (.i2l, 1) := by decide +kernel
theorem dX12_whatever_32 : decode cX12_whatever 32 = .ok (.lconst 0, 1) := by decide +kernel
theorem dX12_whatever_33 : decode cX12_whatever 33 = .ok (.ldc2_w 337, 3) := by decide +kernel
theorem dX12_whatever_36 : decode cX12_whatever 36 = .ok (.invokestatic 131, 3) := by decide +kernel
theorem dX12_whatever_39 : decode cX12_whatever 39 = .ok (.ifCond .eq 16, 3) := by decide +kernel
theorem dX12_whatever_42 : decode cX12_whatever 42 = .ok (.iload 6, 2) := by decide +kernel
theorem dX12_whatever_44 : decode cX12_whatever 44 = .ok (.i2l, 1) := by decide +kernel
theorem dX12_whatever_45 : decode cX12_whatever 45 = .ok (.lconst 1, 1) := by decide +kernel
theorem dX12_whatever_46 : decode cX12_whatever 46 = .ok (.ldc2_w 355, 3) := by decide +kernel
theorem dX12_whatever_49 : decode cX12_whatever 49 = .ok (.invokestatic 131, 3) := by decide +kernel
theorem dX12_whatever_52 : decode cX12_whatever 52 = .ok (.ifCond .ne 5, 3) := by decide +kernel
theorem dX12_whatever_55 : decode cX12_whatever 55 = .ok (.iconst (-1), 1) := by decide +kernel
theorem dX12_whatever_56 : decode cX12_whatever 56 = .ok (.ireturn, 1) := by decide +kernel
theorem dX12_whatever_57 : decode cX12_whatever 57 = .ok (.iload 5, 2) := by decide +kernel
theorem dX12_whatever_59 : decode cX12_whatever 59 = .ok (.ifCond .ne 7, 3) := by decide +kernel
theorem dX12_whatever_62 : decode cX12_whatever 62 = .ok (.iconst 1, 1) := by decide +kernel
theorem dX12_whatever_63 : decode cX12_whatever 63 = .ok (.goto 26, 3) := by decide +kernel
theorem dX12_whatever_66 : decode cX12_whatever 66 = .ok (.iload 5, 2) := by decide +kernel
theorem dX12_whatever_68 : decode cX12_whatever 68 = .ok (.iconst 1, 1) := by decide +kernel
theorem dX12_whatever_69 : decode cX12_whatever 69 = .ok (.if_icmp .ne 7, 3) := by decide +kernel
theorem dX12_whatever_72 : decode cX12_whatever 72 = .ok (.iconst 3, 1) := by decide +kernel
theorem dX12_whatever_73 : decode cX12_whatever 73 = .ok (.goto 16, 3) := by decide +kernel
theorem dX12_whatever_76 : decode cX12_whatever 76 = .ok (.iload 5, 2) := by decide +kernel
theorem dX12_whatever_78 : decode cX12_whatever 78 = .ok (.iconst 2, 1) := by decide +kernel
theorem dX12_whatever_79 : decode cX12_whatever 79 = .ok (.if_icmp .ne 8, 3) := by decide +kernel
theorem dX12_whatever_82 : decode cX12_whatever 82 = .ok (.bipush 9, 2) := by decide +kernel
theorem dX12_whatever_84 : decode cX12_whatever 84 = .ok (.goto 5, 3) := by decide +kernel
theorem dX12_whatever_87 : decode cX12_whatever 87 = .ok (.bipush 27, 2) := by decide +kernel
theorem dX12_whatever_89 : decode cX12_whatever 89 = .ok (.istore 7, 2) := by decide +kernel
theorem dX12_whatever_91 : decode cX12_whatever 91 = .ok (.iconst 0, 1) := by decide +kernel
theorem dX12_whatever_92 : decode cX12_whatever 92 = .ok (.istore 8, 2) := by decide +kernel
theorem dX12_whatever_94 : decode cX12_whatever 94 = .ok (.aload_n 0, 1) := by decide +kernel
theorem dX12_whatever_95 : decode cX12_whatever 95 = .ok (.invokevirtual 420, 3) := by decide +kernel
theorem dX12_whatever_98 : decode cX12_whatever 98 = .ok (.iconst 0, 1) := by decide +kernel
theorem dX12_whatever_99 : decode cX12_whatever 99 = .ok (.istore 9, 2) := by decide +kernel
theorem dX12_whatever_101 : decode cX12_whatever 101 = .ok (.iload 9, 2) := by decide +kernel
theorem dX12_whatever_103 : decode cX12_whatever 103 = .ok (.iload 7, 2) := by decide +kernel
theorem dX12_whatever_105 : decode cX12_whatever 105 = .ok (.if_icmp .ge 95, 3) := by decide +kernel
theorem dX12_whatever_108 : decode cX12_whatever 108 = .ok (.iload 9, 2) := by decide +kernel
theorem dX12_whatever_110 : decode cX12_whatever 110 = .ok (.istore 10, 2) := by decide +kernel
theorem dX12_whatever_112 : decode cX12_whatever 112 = .ok (.iconst 0, 1) := by decide +kernel
theorem dX12_whatever_113 : decode cX12_whatever 113 = .ok (.istore 11, 2) := by decide +kernel
theorem dX12_whatever_115 : decode cX12_whatever 115 = .ok (.iload 11, 2) := by decide +kernel
theorem dX12_whatever_117 : decode cX12_whatever 117 = .ok (.iload_n 3, 1) := by decide +kernel
theorem dX12_whatever_118 : decode cX12_whatever 118 = .ok (.if_icmp .ge 55, 3) := by decide +kernel
theorem dX12_whatever_121 : decode cX12_whatever 121 = .ok (.aload_n 0, 1) := by decide +kernel
theorem dX12_whatever_122 : decode cX12_whatever 122 = .ok (.invokevirtual 393, 3) := by decide +kernel
theorem dX12_whatever_125 : decode cX12_whatever 125 = .ok (.ifCond .ne 48, 3) := by decide +kernel
theorem dX12_whatever_128 : decode cX12_whatever 128 = .ok (.aload_n 0, 1) := by decide +kernel
theorem dX12_whatever_129 : decode cX12_whatever 129 = .ok (.invokevirtual 345, 3) := by decide +kernel
theorem dX12_whatever_132 : decode cX12_whatever 132 = .ok (.iload 11, 2) := by decide +kernel
theorem dX12_whatever_134 : decode cX12_whatever 134 = .ok (.iload 5, 2) := by decide +kernel
theorem dX12_whatever_136 : decode cX12_whatever 136 = .ok (.if_icmp .ge 19, 3) := by decide +kernel
theorem dX12_whatever_139 : decode cX12_whatever 139 = .ok (.aload_n 0, 1) := by decide +kernel
theorem dX12_whatever_140 : decode cX12_whatever 140 = .ok (.getfield 48, 3) := by decide +kernel
theorem dX12_whatever_143 : decode cX12_whatever 143 = .ok (.iload 4, 2) := by decide +kernel
theorem dX12_whatever_145 : decode cX12_whatever 145 = .ok (.iload 10, 2) := by decide +kernel
theorem dX12_whatever_147 : decode cX12_whatever 147 = .ok (.iconst 3, 1) := by decide +kernel
theorem dX12_whatever_148 : decode cX12_whatever 148 = .ok (.irem, 1) := by decide +kernel
theorem dX12_whatever_149 : decode cX12_whatever 149 = .ok (.iconst 1, 1) := by decide +kernel
theorem dX12_whatever_150 : decode cX12_whatever 150 = .ok (.isub, 1) := by decide +kernel
theorem dX12_whatever_151 : decode cX12_whatever 151 = .ok (.iload 6, 2) := by decide +kernel
theorem dX12_whatever_153 : decode cX12_whatever 153 = .ok (.imul, 1) := by decide +kernel
theorem dX12_whatever_154 : decode cX12_whatever 154 = .ok (.iastore, 1) := by decide +kernel
theorem dX12_whatever_155 : decode cX12_whatever 155 = .ok (.iload 10, 2) := by decide +kernel
theorem dX12_whatever_157 : decode cX12_whatever 157 = .ok (.iconst 3, 1) := by decide +kernel
theorem dX12_whatever_158 : decode cX12_whatever 158 = .ok (.idiv, 1) := by decide +kernel
theorem dX12_whatever_159 : decode cX12_whatever 159 = .ok (.istore 10, 2) := by decide +kernel
theorem dX12_whatever_161 : decode cX12_whatever 161 = .ok (.aload_n 0, 1) := by decide +kernel
theorem dX12_whatever_162 : decode cX12_whatever 162 = .ok (.iload_n 1, 1) := by decide +kernel
theorem dX12_whatever_163 : decode cX12_whatever 163 = .ok (.iload_n 2, 1) := by decide +kernel
theorem dX12_whatever_164 : decode cX12_whatever 164 = .ok (.invokevirtual 396, 3) := by decide +kernel
theorem dX12_whatever_167 : decode cX12_whatever 167 = .ok (.iinc 11 1, 3) := by decide +kernel
theorem dX12_whatever_170 : decode cX12_whatever 170 = .ok (.goto (-55), 3) := by decide +kernel
theorem dX12_whatever_173 : decode cX12_whatever 173 = .ok (.iload 8, 2) := by decide +kernel
theorem dX12_whatever_175 : decode cX12_whatever 175 = .ok (.aload_n 0, 1) := by decide +kernel
theorem dX12_whatever_176 : decode cX12_whatever 176 = .ok (.invokevirtual 413, 3) := by decide +kernel
theorem dX12_whatever_179 : decode cX12_whatever 179 = .ok (.ifCond .eq 7, 3) := by decide +kernel
theorem dX12_whatever_182 : decode cX12_whatever 182 = .ok (.iconst 1, 1) := by decide +kernel
theorem dX12_whatever_183 : decode cX12_whatever 183 = .ok (.goto 4, 3) := by decide +kernel
theorem dX12_whatever_186 : decode cX12_whatever 186 = .ok (.iconst 0, 1) := by decide +kernel
theorem dX12_whatever_187 : decode cX12_whatever 187 = .ok (.iadd, 1) := by decide +kernel
theorem dX12_whatever_188 : decode cX12_whatever 188 = .ok (.istore 8, 2) := by decide +kernel
theorem dX12_whatever_190 : decode cX12_whatever 190 = .ok (.aload_n 0, 1) := by decide +kernel
theorem dX12_whatever_191 : decode cX12_whatever 191 = .ok (.invokevirtual 423, 3) := by decide +kernel
theorem dX12_whatever_194 : decode cX12_whatever 194 = .ok (.iinc 9 1, 3) := by decide +kernel
theorem dX12_whatever_197 : decode cX12_whatever 197 = .ok (.goto (-96), 3) := by decide +kernel
theorem dX12_whatever_200 : decode cX12_whatever 200 = .ok (.iload 8, 2) := by decide +kernel
theorem dX12_whatever_202 : decode cX12_whatever 202 = .ok (.ireturn, 1) := by decide +kernel
theorem dX12_keepsAt_0 : decode cX12_keepsAt 0 = .ok (.iconst 0, 1) := by decide +kernel
theorem dX12_keepsAt_1 : decode cX12_keepsAt 1 = .ok (.istore_n 2, 1) := by decide +kernel
theorem dX12_keepsAt_2 : decode cX12_keepsAt 2 = .ok (.iload_n 2, 1) := by decide +kernel
theorem dX12_keepsAt_3 : decode cX12_keepsAt 3 = .ok (.sipush 286, 3) := by decide +kernel
theorem dX12_keepsAt_6 : decode cX12_keepsAt 6 = .ok (.if_icmp .ge 27, 3) := by decide +kernel
theorem dX12_keepsAt_9 : decode cX12_keepsAt 9 = .ok (.aload_n 0, 1) := by decide +kernel
theorem dX12_keepsAt_10 : decode cX12_keepsAt 10 = .ok (.getfield 70, 3) := by decide +kernel
theorem dX12_keepsAt_13 : decode cX12_keepsAt 13 = .ok (.sipush 286, 3) := by decide +kernel
theorem dX12_keepsAt_16 : decode cX12_keepsAt 16 = .ok (.iload_n 1, 1) := by decide +kernel
theorem dX12_keepsAt_17 : decode cX12_keepsAt 17 = .ok (.imul, 1) := by decide +kernel
theorem dX12_keepsAt_18 : decode cX12_keepsAt 18 = .ok (.iload_n 2, 1) := by decide +kernel
theorem dX12_keepsAt_19 : decode cX12_keepsAt 19 = .ok (.iadd, 1) := by decide +kernel
theorem dX12_keepsAt_20 : decode cX12_keepsAt 20 = .ok (.aload_n 0, 1) := by decide +kernel
theorem dX12_keepsAt_21 : decode cX12_keepsAt 21 = .ok (.getfield 45, 3) := by decide +kernel
theorem dX12_keepsAt_24 : decode cX12_keepsAt 24 = .ok (.iload_n 2, 1) := by decide +kernel
theorem dX12_keepsAt_25 : decode cX12_keepsAt 25 = .ok (.iaload, 1) := by decide +kernel
theorem dX12_keepsAt_26 : decode cX12_keepsAt 26 = .ok (.iastore, 1) := by decide +kernel
theorem dX12_keepsAt_27 : decode cX12_keepsAt 27 = .ok (.iinc 2 1, 3) := by decide +kernel
theorem dX12_keepsAt_30 : decode cX12_keepsAt 30 = .ok (.goto (-28), 3) := by decide +kernel
theorem dX12_keepsAt_33 : decode cX12_keepsAt 33 = .ok (.return_, 1) := by decide +kernel
theorem dX12_putsBackAt_0 : decode cX12_putsBackAt 0 = .ok (.iconst 0, 1) := by decide +kernel
theorem dX12_putsBackAt_1 : decode cX12_putsBackAt 1 = .ok (.istore_n 2, 1) := by decide +kernel
theorem dX12_putsBackAt_2 : decode cX12_putsBackAt 2 = .ok (.iload_n 2, 1) := by decide +kernel
theorem dX12_putsBackAt_3 : decode cX12_putsBackAt 3 = .ok (.sipush 286, 3) := by decide +kernel
theorem dX12_putsBackAt_6 : decode cX12_putsBackAt 6 = .ok (.if_icmp .ge 27, 3) := by decide +kernel
theorem dX12_putsBackAt_9 : decode cX12_putsBackAt 9 = .ok (.aload_n 0, 1) := by decide +kernel
theorem dX12_putsBackAt_10 : decode cX12_putsBackAt 10 = .ok (.getfield 45, 3) := by decide +kernel
theorem dX12_putsBackAt_13 : decode cX12_putsBackAt 13 = .ok (.iload_n 2, 1) := by decide +kernel
theorem dX12_putsBackAt_14 : decode cX12_putsBackAt 14 = .ok (.aload_n 0, 1) := by decide +kernel
theorem dX12_putsBackAt_15 : decode cX12_putsBackAt 15 = .ok (.getfield 70, 3) := by decide +kernel
theorem dX12_putsBackAt_18 : decode cX12_putsBackAt 18 = .ok (.sipush 286, 3) := by decide +kernel
theorem dX12_putsBackAt_21 : decode cX12_putsBackAt 21 = .ok (.iload_n 1, 1) := by decide +kernel
theorem dX12_putsBackAt_22 : decode cX12_putsBackAt 22 = .ok (.imul, 1) := by decide +kernel
theorem dX12_putsBackAt_23 : decode cX12_putsBackAt 23 = .ok (.iload_n 2, 1) := by decide +kernel
theorem dX12_putsBackAt_24 : decode cX12_putsBackAt 24 = .ok (.iadd, 1) := by decide +kernel
theorem dX12_putsBackAt_25 : decode cX12_putsBackAt 25 = .ok (.iaload, 1) := by decide +kernel
theorem dX12_putsBackAt_26 : decode cX12_putsBackAt 26 = .ok (.iastore, 1) := by decide +kernel
theorem dX12_putsBackAt_27 : decode cX12_putsBackAt 27 = .ok (.iinc 2 1, 3) := by decide +kernel
theorem dX12_putsBackAt_30 : decode cX12_putsBackAt 30 = .ok (.goto (-28), 3) := by decide +kernel
theorem dX12_putsBackAt_33 : decode cX12_putsBackAt 33 = .ok (.return_, 1) := by decide +kernel
set_option maxRecDepth 20000 in
theorem ggX12_mostTurn_X12_lesser : GoodIn wsX12_mostTurn wsX12_lesser := goodIn_r _ [5] rfl (by decide +kernel)
set_option maxRecDepth 20000 in
theorem gX12_mostTurn_X12_lesser : GoodIn wsX12_mostTurn (va_wsS RX12 437 yX12_lesser wsX12_lesser) := goodIn_app (goodIn_of _ (by decide +kernel)) ggX12_mostTurn_X12_lesser
theorem dX12_mostTurn_0 : decode cX12_mostTurn 0 = .ok (.aload_n 0, 1) := by decide +kernel
theorem dX12_mostTurn_1 : decode cX12_mostTurn 1 = .ok (.getfield 45, 3) := by decide +kernel
theorem dX12_mostTurn_4 : decode cX12_mostTurn 4 = .ok (.iconst 2, 1) := by decide +kernel
theorem dX12_mostTurn_5 : decode cX12_mostTurn 5 = .ok (.iaload, 1) := by decide +kernel
theorem dX12_mostTurn_6 : decode cX12_mostTurn 6 = .ok (.iconst 2, 1) := by decide +kernel
theorem dX12_mostTurn_7 : decode cX12_mostTurn 7 = .ok (.invokestatic 437, 3) := by decide +kernel
theorem dX12_mostTurn_10 : decode cX12_mostTurn 10 = .ok (.ireturn, 1) := by decide +kernel
set_option maxRecDepth 20000 in
theorem ggX12_passesAs_X12_errsAsTold : GoodIn wsX12_passesAs wsX12_errsAsTold := goodIn_r _ [7, 8, 2, 91, 92, 93, 94, 95, 96, 97, 98, 99, 100, 101, 102, 103, 104, 105, 106, 107, 108, 109, 110, 111, 112, 113, 114, 115, 116, 117, 118, 119, 120, 121, 122, 123, 124, 125, 126, 127, 128, 129, 130, 131, 132] rfl (by decide +kernel)
set_option maxRecDepth 20000 in
theorem gX12_passesAs_X12_errsAsTold : GoodIn wsX12_passesAs (wsV RX12 345 RX12 yX12_errsAsTold wsX12_errsAsTold) := goodIn_app (goodIn_of _ (by decide +kernel)) ggX12_passesAs_X12_errsAsTold
set_option maxRecDepth 20000 in
theorem ggX12_passesAs_X12_looks : GoodIn wsX12_passesAs wsX12_looks := goodIn_r _ [12, 13, 1, 14, 2, 15, 16, 17, 18, 6, 19, 20, 21, 22, 23, 24, 25, 26, 27, 8, 28, 29, 30, 31, 32, 33, 34, 35, 36, 37, 38, 39, 40, 41, 42, 43, 44, 45, 46, 47, 48, 49, 50, 51, 52, 53, 54, 55, 56, 57, 58, 59, 60, 61, 62, 63, 64, 65, 66, 67, 68, 69, 70, 71, 91, 92, 93, 94, 95, 96, 97, 98, 99, 100, 101, 102, 103, 104, 105, 106, 107, 108, 109, 110, 111, 112, 113, 114, 115, 116, 117, 118, 119, 120, 121, 122, 123, 124, 125, 126, 127, 128, 129, 130, 131, 132] rfl (by decide +kernel)
set_option maxRecDepth 20000 in
theorem gX12_passesAs_X12_looks : GoodIn wsX12_passesAs (wsV RX12 384 RX12 yX12_looks wsX12_looks) := goodIn_app (goodIn_of _ (by decide +kernel)) ggX12_passesAs_X12_looks
set_option maxRecDepth 20000 in
theorem ggX12_passesAs_X12_acts : GoodIn wsX12_passesAs wsX12_acts := goodIn_r _ [75, 13, 1, 14, 76, 77, 78, 6, 79, 2, 80, 81, 82, 28, 29, 30, 31, 83, 84, 85, 86, 16, 17, 18, 19, 20, 21, 22, 23, 91, 92, 93, 94, 95, 96, 97, 98, 99, 100, 101, 102, 103, 104, 105, 106, 107, 108, 109, 110, 111, 112, 113, 114, 115, 116, 117, 118, 119, 120, 121, 122, 123, 124, 125, 126, 127, 128, 129, 130, 131, 132] rfl (by decide +kernel)
set_option maxRecDepth 20000 in
theorem gX12_passesAs_X12_acts : GoodIn wsX12_passesAs (wsV RX12 387 RX12 yX12_acts wsX12_acts) := goodIn_app (goodIn_of _ (by decide +kernel)) ggX12_passesAs_X12_acts
set_option maxRecDepth 20000 in
theorem ggX12_passesAs_X12_gap : GoodIn wsX12_passesAs wsX12_gap := goodIn_r _ [31, 2, 91, 92, 93, 94, 95, 96, 97, 98, 99, 100, 101, 102, 103, 104, 105, 106, 107, 108, 109, 110, 111, 112, 113, 114, 115, 116, 117, 118, 119, 120, 121, 122, 123, 124, 125, 126, 127, 128, 129, 130, 131, 132] rfl (by decide +kernel)
set_option maxRecDepth 20000 in
theorem gX12_passesAs_X12_gap : GoodIn wsX12_passesAs (wsV RX12 314 RX12 yX12_gap wsX12_gap) := goodIn_app (goodIn_of _ (by decide +kernel)) ggX12_passesAs_X12_gap
set_option maxRecDepth 20000 in
theorem ggX12_passesAs_X12_floods : GoodIn wsX12_passesAs wsX12_floods := goodIn_r _ [90, 2, 76, 77, 78, 6, 79, 80, 81, 82, 91, 92, 93, 94, 95, 96, 97, 98, 99, 100, 101, 102, 103, 104, 105, 106, 107, 108, 109, 110, 111, 112, 113, 114, 115, 116, 117, 118, 119, 120, 121, 122, 123, 124, 125, 126, 127, 128, 129, 130, 131, 132] rfl (by decide +kernel)
set_option maxRecDepth 20000 in
theorem gX12_passesAs_X12_floods : GoodIn wsX12_passesAs (wsV RX12 390 RX12 yX12_floods wsX12_floods) := goodIn_app (goodIn_of _ (by decide +kernel)) ggX12_passesAs_X12_floods
theorem dX12_passesAs_0 : decode cX12_passesAs 0 = .ok (.aload_n 0, 1) := by decide +kernel
theorem dX12_passesAs_1 : decode cX12_passesAs 1 = .ok (.invokevirtual 345, 3) := by decide +kernel
theorem dX12_passesAs_4 : decode cX12_passesAs 4 = .ok (.aload_n 0, 1) := by decide +kernel
theorem dX12_passesAs_5 : decode cX12_passesAs 5 = .ok (.iconst 0, 1) := by decide +kernel
theorem dX12_passesAs_6 : decode cX12_passesAs 6 = .ok (.iload_n 1, 1) := by decide +kernel
theorem dX12_passesAs_7 : decode cX12_passesAs 7 = .ok (.ifCond .ne 7, 3) := by decide +kernel
theorem dX12_passesAs_10 : decode cX12_passesAs 10 = .ok (.iconst (-1), 1) := by decide +kernel
theorem dX12_passesAs_11 : decode cX12_passesAs 11 = .ok (.goto 4, 3) := by decide +kernel
theorem dX12_passesAs_14 : decode cX12_passesAs 14 = .ok (.iload_n 2, 1) := by decide +kernel
theorem dX12_passesAs_15 : decode cX12_passesAs 15 = .ok (.invokevirtual 384, 3) := by decide +kernel
theorem dX12_passesAs_18 : decode cX12_passesAs 18 = .ok (.aload_n 0, 1) := by decide +kernel
theorem dX12_passesAs_19 : decode cX12_passesAs 19 = .ok (.iconst 1, 1) := by decide +kernel
theorem dX12_passesAs_20 : decode cX12_passesAs 20 = .ok (.iload_n 1, 1) := by decide +kernel
theorem dX12_passesAs_21 : decode cX12_passesAs 21 = .ok (.iconst 1, 1) := by decide +kernel
theorem dX12_passesAs_22 : decode cX12_passesAs 22 = .ok (.if_icmp .ne 7, 3) := by decide +kernel
theorem dX12_passesAs_25 : decode cX12_passesAs 25 = .ok (.iconst (-1), 1) := by decide +kernel
theorem dX12_passesAs_26 : decode cX12_passesAs 26 = .ok (.goto 4, 3) := by decide +kernel
theorem dX12_passesAs_29 : decode cX12_passesAs 29 = .ok (.iload_n 2, 1) := by decide +kernel
theorem dX12_passesAs_30 : decode cX12_passesAs 30 = .ok (.invokevirtual 384, 3) := by decide +kernel
theorem dX12_passesAs_33 : decode cX12_passesAs 33 = .ok (.aload_n 0, 1) := by decide +kernel
theorem dX12_passesAs_34 : decode cX12_passesAs 34 = .ok (.getfield 54, 3) := by decide +kernel
theorem dX12_passesAs_37 : decode cX12_passesAs 37 = .ok (.iload_n 1, 1) := by decide +kernel
theorem dX12_passesAs_38 : decode cX12_passesAs 38 = .ok (.iload_n 3, 1) := by decide +kernel
theorem dX12_passesAs_39 : decode cX12_passesAs 39 = .ok (.iastore, 1) := by decide +kernel
theorem dX12_passesAs_40 : decode cX12_passesAs 40 = .ok (.aload_n 0, 1) := by decide +kernel
theorem dX12_passesAs_41 : decode cX12_passesAs 41 = .ok (.iconst 0, 1) := by decide +kernel
theorem dX12_passesAs_42 : decode cX12_passesAs 42 = .ok (.invokevirtual 387, 3) := by decide +kernel
theorem dX12_passesAs_45 : decode cX12_passesAs 45 = .ok (.iload_n 1, 1) := by decide +kernel
theorem dX12_passesAs_46 : decode cX12_passesAs 46 = .ok (.ifCond .eq 10, 3) := by decide +kernel
theorem dX12_passesAs_49 : decode cX12_passesAs 49 = .ok (.aload_n 0, 1) := by decide +kernel
theorem dX12_passesAs_50 : decode cX12_passesAs 50 = .ok (.invokevirtual 314, 3) := by decide +kernel
theorem dX12_passesAs_53 : decode cX12_passesAs 53 = .ok (.ifCond .le 7, 3) := by decide +kernel
theorem dX12_passesAs_56 : decode cX12_passesAs 56 = .ok (.iconst 1, 1) := by decide +kernel
theorem dX12_passesAs_57 : decode cX12_passesAs 57 = .ok (.goto 4, 3) := by decide +kernel
theorem dX12_passesAs_60 : decode cX12_passesAs 60 = .ok (.iconst 0, 1) := by decide +kernel
theorem dX12_passesAs_61 : decode cX12_passesAs 61 = .ok (.istore 4, 2) := by decide +kernel
theorem dX12_passesAs_63 : decode cX12_passesAs 63 = .ok (.aload_n 0, 1) := by decide +kernel
theorem dX12_passesAs_64 : decode cX12_passesAs 64 = .ok (.iconst 1, 1) := by decide +kernel
theorem dX12_passesAs_65 : decode cX12_passesAs 65 = .ok (.invokevirtual 387, 3) := by decide +kernel
theorem dX12_passesAs_68 : decode cX12_passesAs 68 = .ok (.aload_n 0, 1) := by decide +kernel
theorem dX12_passesAs_69 : decode cX12_passesAs 69 = .ok (.invokevirtual 390, 3) := by decide +kernel
theorem dX12_passesAs_72 : decode cX12_passesAs 72 = .ok (.aload_n 0, 1) := by decide +kernel
theorem dX12_passesAs_73 : decode cX12_passesAs 73 = .ok (.getfield 45, 3) := by decide +kernel
theorem dX12_passesAs_76 : decode cX12_passesAs 76 = .ok (.iconst 1, 1) := by decide +kernel
theorem dX12_passesAs_77 : decode cX12_passesAs 77 = .ok (.dup2, 1) := by decide +kernel
theorem dX12_passesAs_78 : decode cX12_passesAs 78 = .ok (.iaload, 1) := by decide +kernel
theorem dX12_passesAs_79 : decode cX12_passesAs 79 = .ok (.iconst 1, 1) := by decide +kernel
theorem dX12_passesAs_80 : decode cX12_passesAs 80 = .ok (.iadd, 1) := by decide +kernel
theorem dX12_passesAs_81 : decode cX12_passesAs 81 = .ok (.iastore, 1) := by decide +kernel
theorem dX12_passesAs_82 : decode cX12_passesAs 82 = .ok (.iload 4, 2) := by decide +kernel
theorem dX12_passesAs_84 : decode cX12_passesAs 84 = .ok (.ireturn, 1) := by decide +kernel
theorem dX12_takesRow_0 : decode cX12_takesRow 0 = .ok (.iconst 0, 1) := by decide +kernel
theorem dX12_takesRow_1 : decode cX12_takesRow 1 = .ok (.istore_n 2, 1) := by decide +kernel
theorem dX12_takesRow_2 : decode cX12_takesRow 2 = .ok (.iload_n 2, 1) := by decide +kernel
theorem dX12_takesRow_3 : decode cX12_takesRow 3 = .ok (.bipush 6, 2) := by decide +kernel
theorem dX12_takesRow_5 : decode cX12_takesRow 5 = .ok (.if_icmp .ge 31, 3) := by decide +kernel
theorem dX12_takesRow_8 : decode cX12_takesRow 8 = .ok (.aload_n 0, 1) := by decide +kernel
theorem dX12_takesRow_9 : decode cX12_takesRow 9 = .ok (.getfield 79, 3) := by decide +kernel
theorem dX12_takesRow_12 : decode cX12_takesRow 12 = .ok (.iload_n 2, 1) := by decide +kernel
theorem dX12_takesRow_13 : decode cX12_takesRow 13 = .ok (.iload_n 2, 1) := by decide +kernel
theorem dX12_takesRow_14 : decode cX12_takesRow 14 = .ok (.iload_n 1, 1) := by decide +kernel
theorem dX12_takesRow_15 : decode cX12_takesRow 15 = .ok (.if_icmp .ge 12, 3) := by decide +kernel
theorem dX12_takesRow_18 : decode cX12_takesRow 18 = .ok (.aload_n 0, 1) := by decide +kernel
theorem dX12_takesRow_19 : decode cX12_takesRow 19 = .ok (.getfield 73, 3) := by decide +kernel
theorem dX12_takesRow_22 : decode cX12_takesRow 22 = .ok (.iload_n 2, 1) := by decide +kernel
theorem dX12_takesRow_23 : decode cX12_takesRow 23 = .ok (.iaload, 1) := by decide +kernel
theorem dX12_takesRow_24 : decode cX12_takesRow 24 = .ok (.goto 5, 3) := by decide +kernel
theorem dX12_takesRow_27 : decode cX12_takesRow 27 = .ok (.bipush (-100), 2) := by decide +kernel
theorem dX12_takesRow_29 : decode cX12_takesRow 29 = .ok (.iastore, 1) := by decide +kernel
theorem dX12_takesRow_30 : decode cX12_takesRow 30 = .ok (.iinc 2 1, 3) := by decide +kernel
theorem dX12_takesRow_33 : decode cX12_takesRow 33 = .ok (.goto (-31), 3) := by decide +kernel
theorem dX12_takesRow_36 : decode cX12_takesRow 36 = .ok (.return_, 1) := by decide +kernel
set_option maxRecDepth 20000 in
theorem ggX12_goesThrough_X12_keeps : GoodIn wsX12_goesThrough wsX12_keeps := goodIn_r _ [8, 9, 10, 147, 148, 149, 150, 151, 152, 153, 154, 155, 156, 157, 158, 159, 160, 161, 162, 163, 164, 165, 166, 167, 168, 169, 170, 171, 172, 173, 174, 175, 176, 177, 178, 179, 180, 181, 182, 183, 184, 185, 186, 187, 188] rfl (by decide +kernel)
set_option maxRecDepth 20000 in
theorem gX12_goesThrough_X12_keeps : GoodIn wsX12_goesThrough (wsV RX12 420 RX12 yX12_keeps wsX12_keeps) := goodIn_app (goodIn_of _ (by decide +kernel)) ggX12_goesThrough_X12_keeps
set_option maxRecDepth 20000 in
theorem ggX12_goesThrough_X12_keepsAt : GoodIn wsX12_goesThrough wsX12_keepsAt := goodIn_r _ [14, 15, 10, 147, 148, 149, 150, 151, 152, 153, 154, 155, 156, 157, 158, 159, 160, 161, 162, 163, 164, 165, 166, 167, 168, 169, 170, 171, 172, 173, 174, 175, 176, 177, 178, 179, 180, 181, 182, 183, 184, 185, 186, 187, 188] rfl (by decide +kernel)
set_option maxRecDepth 20000 in
theorem gX12_goesThrough_X12_keepsAt : GoodIn wsX12_goesThrough (wsV RX12 443 RX12 yX12_keepsAt wsX12_keepsAt) := goodIn_app (goodIn_of _ (by decide +kernel)) ggX12_goesThrough_X12_keepsAt
set_option maxRecDepth 20000 in
theorem ggX12_goesThrough_X12_mostTurn : GoodIn wsX12_goesThrough wsX12_mostTurn := goodIn_r _ [19, 10, 20, 21, 7, 22, 147, 148, 149, 150, 151, 152, 153, 154, 155, 156, 157, 158, 159, 160, 161, 162, 163, 164, 165, 166, 167, 168, 169, 170, 171, 172, 173, 174, 175, 176, 177, 178, 179, 180, 181, 182, 183, 184, 185, 186, 187, 188] rfl (by decide +kernel)
set_option maxRecDepth 20000 in
theorem gX12_goesThrough_X12_mostTurn : GoodIn wsX12_goesThrough (wsV RX12 446 RX12 yX12_mostTurn wsX12_mostTurn) := goodIn_app (goodIn_of _ (by decide +kernel)) ggX12_goesThrough_X12_mostTurn
set_option maxRecDepth 20000 in
theorem ggX12_goesThrough_X12_putsBackAt : GoodIn wsX12_goesThrough wsX12_putsBackAt := goodIn_r _ [26, 10, 15, 147, 148, 149, 150, 151, 152, 153, 154, 155, 156, 157, 158, 159, 160, 161, 162, 163, 164, 165, 166, 167, 168, 169, 170, 171, 172, 173, 174, 175, 176, 177, 178, 179, 180, 181, 182, 183, 184, 185, 186, 187, 188] rfl (by decide +kernel)
set_option maxRecDepth 20000 in
theorem gX12_goesThrough_X12_putsBackAt : GoodIn wsX12_goesThrough (wsV RX12 449 RX12 yX12_putsBackAt wsX12_putsBackAt) := goodIn_app (goodIn_of _ (by decide +kernel)) ggX12_goesThrough_X12_putsBackAt
set_option maxRecDepth 20000 in
theorem ggX12_goesThrough_X12_passesAs : GoodIn wsX12_goesThrough wsX12_passesAs := goodIn_r _ [30, 31, 10, 32, 33, 34, 7, 35, 36, 37, 38, 39, 40, 41, 42, 43, 44, 45, 46, 47, 48, 49, 50, 51, 52, 53, 54, 55, 56, 57, 58, 59, 60, 61, 62, 63, 64, 65, 66, 67, 68, 69, 70, 71, 72, 73, 74, 75, 76, 77, 78, 79, 80, 81, 82, 83, 84, 85, 86, 87, 88, 89, 90, 91, 92, 93, 94, 95, 96, 97, 98, 99, 100, 101, 102, 103, 104, 105, 106, 107, 108, 109, 110, 111, 112, 113, 114, 115, 116, 117, 118, 147, 148, 149, 150, 151, 152, 153, 154, 155, 156, 157, 158, 159, 160, 161, 162, 163, 164, 165, 166, 167, 168, 169, 170, 171, 172, 173, 174, 175, 176, 177, 178, 179, 180, 181, 182, 183, 184, 185, 186, 187, 188] rfl (by decide +kernel)
set_option maxRecDepth 20000 in
theorem gX12_goesThrough_X12_passesAs : GoodIn wsX12_goesThrough (wsV RX12 452 RX12 yX12_passesAs wsX12_passesAs) := goodIn_app (goodIn_of _ (by decide +kernel)) ggX12_goesThrough_X12_passesAs
set_option maxRecDepth 20000 in
theorem ggX12_goesThrough_X12_plain : GoodIn wsX12_goesThrough wsX12_plain := goodIn_r _ [121] rfl (by decide +kernel)
set_option maxRecDepth 20000 in
theorem gX12_goesThrough_X12_plain : GoodIn wsX12_goesThrough (va_wsS RX12 324 yX12_plain wsX12_plain) := goodIn_app (goodIn_of _ (by decide +kernel)) ggX12_goesThrough_X12_plain
set_option maxRecDepth 20000 in
theorem ggX12_goesThrough_X12_isMet : GoodIn wsX12_goesThrough wsX12_isMet := goodIn_r _ [125, 56, 57, 58, 7, 59, 10, 147, 148, 149, 150, 151, 152, 153, 154, 155, 156, 157, 158, 159, 160, 161, 162, 163, 164, 165, 166, 167, 168, 169, 170, 171, 172, 173, 174, 175, 176, 177, 178, 179, 180, 181, 182, 183, 184, 185, 186, 187, 188] rfl (by decide +kernel)
set_option maxRecDepth 20000 in
theorem gX12_goesThrough_X12_isMet : GoodIn wsX12_goesThrough (wsV RX12 393 RX12 yX12_isMet wsX12_isMet) := goodIn_app (goodIn_of _ (by decide +kernel)) ggX12_goesThrough_X12_isMet
set_option maxRecDepth 20000 in
theorem ggX12_goesThrough_X12_crooked : GoodIn wsX12_goesThrough wsX12_crooked := goodIn_r _ [129, 10, 60, 61, 62, 7, 63, 48, 49, 50, 51, 119, 120, 121, 147, 148, 149, 150, 151, 152, 153, 154, 155, 156, 157, 158, 159, 160, 161, 162, 163, 164, 165, 166, 167, 168, 169, 170, 171, 172, 173, 174, 175, 176, 177, 178, 179, 180, 181, 182, 183, 184, 185, 186, 187, 188] rfl (by decide +kernel)
set_option maxRecDepth 20000 in
theorem gX12_goesThrough_X12_crooked : GoodIn wsX12_goesThrough (wsV RX12 342 RX12 yX12_crooked wsX12_crooked) := goodIn_app (goodIn_of _ (by decide +kernel)) ggX12_goesThrough_X12_crooked
set_option maxRecDepth 20000 in
theorem ggX12_goesThrough_X12_isInTime : GoodIn wsX12_goesThrough wsX12_isInTime := goodIn_r _ [133, 10, 122, 123, 124, 7, 125, 56, 57, 58, 59, 134, 135, 136, 137, 44, 45, 46, 47, 48, 49, 50, 51, 119, 120, 121, 147, 148, 149, 150, 151, 152, 153, 154, 155, 156, 157, 158, 159, 160, 161, 162, 163, 164, 165, 166, 167, 168, 169, 170, 171, 172, 173, 174, 175, 176, 177, 178, 179, 180, 181, 182, 183, 184, 185, 186, 187, 188] rfl (by decide +kernel)
set_option maxRecDepth 20000 in
theorem gX12_goesThrough_X12_isInTime : GoodIn wsX12_goesThrough (wsV RX12 413 RX12 yX12_isInTime wsX12_isInTime) := goodIn_app (goodIn_of _ (by decide +kernel)) ggX12_goesThrough_X12_isInTime
set_option maxRecDepth 20000 in
theorem ggX12_goesThrough_X12_takesRow : GoodIn wsX12_goesThrough wsX12_takesRow := goodIn_r _ [141, 142, 3, 147, 148, 149, 150, 151, 152, 153, 154, 155, 156, 157, 158, 159, 160, 161, 162, 163, 164, 165, 166, 167, 168, 169, 170, 171, 172, 173, 174, 175, 176, 177, 178, 179, 180, 181, 182, 183, 184, 185, 186, 187, 188] rfl (by decide +kernel)
set_option maxRecDepth 20000 in
theorem gX12_goesThrough_X12_takesRow : GoodIn wsX12_goesThrough (wsV RX12 456 RX12 yX12_takesRow wsX12_takesRow) := goodIn_app (goodIn_of _ (by decide +kernel)) ggX12_goesThrough_X12_takesRow
set_option maxRecDepth 20000 in
theorem ggX12_goesThrough_X12_putsBack : GoodIn wsX12_goesThrough wsX12_putsBack := goodIn_r _ [146, 10, 9, 147, 148, 149, 150, 151, 152, 153, 154, 155, 156, 157, 158, 159, 160, 161, 162, 163, 164, 165, 166, 167, 168, 169, 170, 171, 172, 173, 174, 175, 176, 177, 178, 179, 180, 181, 182, 183, 184, 185, 186, 187, 188] rfl (by decide +kernel)
set_option maxRecDepth 20000 in
theorem gX12_goesThrough_X12_putsBack : GoodIn wsX12_goesThrough (wsV RX12 423 RX12 yX12_putsBack wsX12_putsBack) := goodIn_app (goodIn_of _ (by decide +kernel)) ggX12_goesThrough_X12_putsBack
theorem dX12_goesThrough_0 : decode cX12_goesThrough 0 = .ok (.aload_n 0, 1) := by decide +kernel
theorem dX12_goesThrough_1 : decode cX12_goesThrough 1 = .ok (.iconst (-1), 1) := by decide +kernel
theorem dX12_goesThrough_2 : decode cX12_goesThrough 2 = .ok (.putfield 440, 3) := by decide +kernel
theorem dX12_goesThrough_5 : decode cX12_goesThrough 5 = .ok (.aload_n 0, 1) := by decide +kernel
theorem dX12_goesThrough_6 : decode cX12_goesThrough 6 = .ok (.invokevirtual 420, 3) := by decide +kernel
theorem dX12_goesThrough_9 : decode cX12_goesThrough 9 = .ok (.iconst 0, 1) := by decide +kernel
theorem dX12_goesThrough_10 : decode cX12_goesThrough 10 = .ok (.istore 6, 2) := by decide +kernel
theorem dX12_goesThrough_12 : decode cX12_goesThrough 12 = .ok (.aload_n 0, 1) := by decide +kernel
theorem dX12_goesThrough_13 : decode cX12_goesThrough 13 = .ok (.getfield 76, 3) := by decide +kernel
theorem dX12_goesThrough_16 : decode cX12_goesThrough 16 = .ok (.iconst 0, 1) := by decide +kernel
theorem dX12_goesThrough_17 : decode cX12_goesThrough 17 = .ok (.iconst 0, 1) := by decide +kernel
theorem dX12_goesThrough_18 : decode cX12_goesThrough 18 = .ok (.iastore, 1) := by decide +kernel
theorem dX12_goesThrough_19 : decode cX12_goesThrough 19 = .ok (.aload_n 0, 1) := by decide +kernel
theorem dX12_goesThrough_20 : decode cX12_goesThrough 20 = .ok (.iconst 0, 1) := by decide +kernel
theorem dX12_goesThrough_21 : decode cX12_goesThrough 21 = .ok (.invokevirtual 443, 3) := by decide +kernel
theorem dX12_goesThrough_24 : decode cX12_goesThrough 24 = .ok (.aload_n 0, 1) := by decide +kernel
theorem dX12_goesThrough_25 : decode cX12_goesThrough 25 = .ok (.getfield 73, 3) := by decide +kernel
theorem dX12_goesThrough_28 : decode cX12_goesThrough 28 = .ok (.iconst 0, 1) := by decide +kernel
theorem dX12_goesThrough_29 : decode cX12_goesThrough 29 = .ok (.aload_n 0, 1) := by decide +kernel
theorem dX12_goesThrough_30 : decode cX12_goesThrough 30 = .ok (.invokevirtual 446, 3) := by decide +kernel
theorem dX12_goesThrough_33 : decode cX12_goesThrough 33 = .ok (.ineg, 1) := by decide +kernel
theorem dX12_goesThrough_34 : decode cX12_goesThrough 34 = .ok (.iconst 1, 1) := by decide +kernel
theorem dX12_goesThrough_35 : decode cX12_goesThrough 35 = .ok (.isub, 1) := by decide +kernel
theorem dX12_goesThrough_36 : decode cX12_goesThrough 36 = .ok (.iastore, 1) := by decide +kernel
theorem dX12_goesThrough_37 : decode cX12_goesThrough 37 = .ok (.iload 6, 2) := by decide +kernel
theorem dX12_goesThrough_39 : decode cX12_goesThrough 39 = .ok (.ifCond .lt 270, 3) := by decide +kernel
theorem dX12_goesThrough_42 : decode cX12_goesThrough 42 = .ok (.aload_n 0, 1) := by decide +kernel
theorem dX12_goesThrough_43 : decode cX12_goesThrough 43 = .ok (.getfield 73, 3) := by decide +kernel
theorem dX12_goesThrough_46 : decode cX12_goesThrough 46 = .ok (.iload 6, 2) := by decide +kernel
theorem dX12_goesThrough_48 : decode cX12_goesThrough 48 = .ok (.iaload, 1) := by decide +kernel
theorem dX12_goesThrough_49 : decode cX12_goesThrough 49 = .ok (.aload_n 0, 1) := by decide +kernel
theorem dX12_goesThrough_50 : decode cX12_goesThrough 50 = .ok (.invokevirtual 446, 3) := by decide +kernel
theorem dX12_goesThrough_53 : decode cX12_goesThrough 53 = .ok (.if_icmp .eq 15, 3) := by decide +kernel
theorem dX12_goesThrough_56 : decode cX12_goesThrough 56 = .ok (.aload_n 0, 1) := by decide +kernel
theorem dX12_goesThrough_57 : decode cX12_goesThrough 57 = .ok (.getfield 73, 3) := by decide +kernel
theorem dX12_goesThrough_60 : decode cX12_goesThrough 60 = .ok (.iload 6, 2) := by decide +kernel
theorem dX12_goesThrough_62 : decode cX12_goesThrough 62 = .ok (.iaload, 1) := by decide +kernel
theorem dX12_goesThrough_63 : decode cX12_goesThrough 63 = .ok (.bipush (-100), 2) := by decide +kernel
theorem dX12_goesThrough_65 : decode cX12_goesThrough 65 = .ok (.if_icmp .ne 9, 3) := by decide +kernel
theorem dX12_goesThrough_68 : decode cX12_goesThrough 68 = .ok (.iinc 6 (-1), 3) := by decide +kernel
theorem dX12_goesThrough_71 : decode cX12_goesThrough 71 = .ok (.goto (-34), 3) := by decide +kernel
theorem dX12_goesThrough_74 : decode cX12_goesThrough 74 = .ok (.aload_n 0, 1) := by decide +kernel
theorem dX12_goesThrough_75 : decode cX12_goesThrough 75 = .ok (.getfield 73, 3) := by decide +kernel
theorem dX12_goesThrough_78 : decode cX12_goesThrough 78 = .ok (.iload 6, 2) := by decide +kernel
theorem dX12_goesThrough_80 : decode cX12_goesThrough 80 = .ok (.dup2, 1) := by decide +kernel
theorem dX12_goesThrough_81 : decode cX12_goesThrough 81 = .ok (.iaload, 1) := by decide +kernel
theorem dX12_goesThrough_82 : decode cX12_goesThrough 82 = .ok (.iconst 1, 1) := by decide +kernel
theorem dX12_goesThrough_83 : decode cX12_goesThrough 83 = .ok (.iadd, 1) := by decide +kernel
theorem dX12_goesThrough_84 : decode cX12_goesThrough 84 = .ok (.iastore, 1) := by decide +kernel
theorem dX12_goesThrough_85 : decode cX12_goesThrough 85 = .ok (.aload_n 0, 1) := by decide +kernel
theorem dX12_goesThrough_86 : decode cX12_goesThrough 86 = .ok (.iload 6, 2) := by decide +kernel
theorem dX12_goesThrough_88 : decode cX12_goesThrough 88 = .ok (.invokevirtual 449, 3) := by decide +kernel
theorem dX12_goesThrough_91 : decode cX12_goesThrough 91 = .ok (.aload_n 0, 1) := by decide +kernel
theorem dX12_goesThrough_92 : decode cX12_goesThrough 92 = .ok (.iload_n 1, 1) := by decide +kernel
theorem dX12_goesThrough_93 : decode cX12_goesThrough 93 = .ok (.iload_n 2, 1) := by decide +kernel
theorem dX12_goesThrough_94 : decode cX12_goesThrough 94 = .ok (.aload_n 0, 1) := by decide +kernel
theorem dX12_goesThrough_95 : decode cX12_goesThrough 95 = .ok (.getfield 73, 3) := by decide +kernel
theorem dX12_goesThrough_98 : decode cX12_goesThrough 98 = .ok (.iload 6, 2) := by decide +kernel
theorem dX12_goesThrough_100 : decode cX12_goesThrough 100 = .ok (.iaload, 1) := by decide +kernel
theorem dX12_goesThrough_101 : decode cX12_goesThrough 101 = .ok (.invokevirtual 452, 3) := by decide +kernel
theorem dX12_goesThrough_104 : decode cX12_goesThrough 104 = .ok (.istore 7, 2) := by decide +kernel
theorem dX12_goesThrough_106 : decode cX12_goesThrough 106 = .ok (.aload_n 0, 1) := by decide +kernel
theorem dX12_goesThrough_107 : decode cX12_goesThrough 107 = .ok (.getfield 76, 3) := by decide +kernel
theorem dX12_goesThrough_110 : decode cX12_goesThrough 110 = .ok (.iload 6, 2) := by decide +kernel
theorem dX12_goesThrough_112 : decode cX12_goesThrough 112 = .ok (.iaload, 1) := by decide +kernel
theorem dX12_goesThrough_113 : decode cX12_goesThrough 113 = .ok (.iload 7, 2) := by decide +kernel
theorem dX12_goesThrough_115 : decode cX12_goesThrough 115 = .ok (.ifCond .eq 16, 3) := by decide +kernel
theorem dX12_goesThrough_118 : decode cX12_goesThrough 118 = .ok (.aload_n 0, 1) := by decide +kernel
theorem dX12_goesThrough_119 : decode cX12_goesThrough 119 = .ok (.getfield 73, 3) := by decide +kernel
theorem dX12_goesThrough_122 : decode cX12_goesThrough 122 = .ok (.iload 6, 2) := by decide +kernel
theorem dX12_goesThrough_124 : decode cX12_goesThrough 124 = .ok (.iaload, 1) := by decide +kernel
theorem dX12_goesThrough_125 : decode cX12_goesThrough 125 = .ok (.invokestatic 324, 3) := by decide +kernel
theorem dX12_goesThrough_128 : decode cX12_goesThrough 128 = .ok (.goto 4, 3) := by decide +kernel
theorem dX12_goesThrough_131 : decode cX12_goesThrough 131 = .ok (.iconst 0, 1) := by decide +kernel
theorem dX12_goesThrough_132 : decode cX12_goesThrough 132 = .ok (.iadd, 1) := by decide +kernel
theorem dX12_goesThrough_133 : decode cX12_goesThrough 133 = .ok (.istore 8, 2) := by decide +kernel
theorem dX12_goesThrough_135 : decode cX12_goesThrough 135 = .ok (.iload 7, 2) := by decide +kernel
theorem dX12_goesThrough_137 : decode cX12_goesThrough 137 = .ok (.ifCond .ne 12, 3) := by decide +kernel
theorem dX12_goesThrough_140 : decode cX12_goesThrough 140 = .ok (.aload_n 0, 1) := by decide +kernel
theorem dX12_goesThrough_141 : decode cX12_goesThrough 141 = .ok (.getfield 73, 3) := by decide +kernel
theorem dX12_goesThrough_144 : decode cX12_goesThrough 144 = .ok (.iload 6, 2) := by decide +kernel
theorem dX12_goesThrough_146 : decode cX12_goesThrough 146 = .ok (.bipush (-100), 2) := by decide +kernel
theorem dX12_goesThrough_148 : decode cX12_goesThrough 148 = .ok (.iastore, 1) := by decide +kernel
theorem dX12_goesThrough_149 : decode cX12_goesThrough 149 = .ok (.iload 4, 2) := by decide +kernel
theorem dX12_goesThrough_151 : decode cX12_goesThrough 151 = .ok (.ifCond .eq 13, 3) := by decide +kernel
theorem dX12_goesThrough_154 : decode cX12_goesThrough 154 = .ok (.iload 8, 2) := by decide +kernel
theorem dX12_goesThrough_156 : decode cX12_goesThrough 156 = .ok (.iload 5, 2) := by decide +kernel
theorem dX12_goesThrough_158 : decode cX12_goesThrough 158 = .ok (.if_icmp .le 25, 3) := by decide +kernel
theorem dX12_goesThrough_161 : decode cX12_goesThrough 161 = .ok (.goto (-124), 3) := by decide +kernel
theorem dX12_goesThrough_164 : decode cX12_goesThrough 164 = .ok (.aload_n 0, 1) := by decide +kernel
theorem dX12_goesThrough_165 : decode cX12_goesThrough 165 = .ok (.getfield 440, 3) := by decide +kernel
theorem dX12_goesThrough_168 : decode cX12_goesThrough 168 = .ok (.ifCond .lt 15, 3) := by decide +kernel
theorem dX12_goesThrough_171 : decode cX12_goesThrough 171 = .ok (.iload 8, 2) := by decide +kernel
theorem dX12_goesThrough_173 : decode cX12_goesThrough 173 = .ok (.aload_n 0, 1) := by decide +kernel
theorem dX12_goesThrough_174 : decode cX12_goesThrough 174 = .ok (.getfield 440, 3) := by decide +kernel
theorem dX12_goesThrough_177 : decode cX12_goesThrough 177 = .ok (.if_icmp .lt 6, 3) := by decide +kernel
theorem dX12_goesThrough_180 : decode cX12_goesThrough 180 = .ok (.goto (-143), 3) := by decide +kernel
theorem dX12_goesThrough_183 : decode cX12_goesThrough 183 = .ok (.aload_n 0, 1) := by decide +kernel
theorem dX12_goesThrough_184 : decode cX12_goesThrough 184 = .ok (.invokevirtual 393, 3) := by decide +kernel
theorem dX12_goesThrough_187 : decode cX12_goesThrough 187 = .ok (.ifCond .ne 11, 3) := by decide +kernel
theorem dX12_goesThrough_190 : decode cX12_goesThrough 190 = .ok (.iload 6, 2) := by decide +kernel
theorem dX12_goesThrough_192 : decode cX12_goesThrough 192 = .ok (.iload_n 3, 1) := by decide +kernel
theorem dX12_goesThrough_193 : decode cX12_goesThrough 193 = .ok (.iconst 1, 1) := by decide +kernel
theorem dX12_goesThrough_194 : decode cX12_goesThrough 194 = .ok (.isub, 1) := by decide +kernel
theorem dX12_goesThrough_195 : decode cX12_goesThrough 195 = .ok (.if_icmp .ne 7, 3) := by decide +kernel
theorem dX12_goesThrough_198 : decode cX12_goesThrough 198 = .ok (.iconst 1, 1) := by decide +kernel
theorem dX12_goesThrough_199 : decode cX12_goesThrough 199 = .ok (.goto 4, 3) := by decide +kernel
theorem dX12_goesThrough_202 : decode cX12_goesThrough 202 = .ok (.iconst 0, 1) := by decide +kernel
theorem dX12_goesThrough_203 : decode cX12_goesThrough 203 = .ok (.istore 9, 2) := by decide +kernel
theorem dX12_goesThrough_205 : decode cX12_goesThrough 205 = .ok (.iload 9, 2) := by decide +kernel
theorem dX12_goesThrough_207 : decode cX12_goesThrough 207 = .ok (.ifCond .ne 38, 3) := by decide +kernel
theorem dX12_goesThrough_210 : decode cX12_goesThrough 210 = .ok (.iinc 6 1, 3) := by decide +kernel
theorem dX12_goesThrough_213 : decode cX12_goesThrough 213 = .ok (.aload_n 0, 1) := by decide +kernel
theorem dX12_goesThrough_214 : decode cX12_goesThrough 214 = .ok (.getfield 76, 3) := by decide +kernel
theorem dX12_goesThrough_217 : decode cX12_goesThrough 217 = .ok (.iload 6, 2) := by decide +kernel
theorem dX12_goesThrough_219 : decode cX12_goesThrough 219 = .ok (.iload 8, 2) := by decide +kernel
theorem dX12_goesThrough_221 : decode cX12_goesThrough 221 = .ok (.iastore, 1) := by decide +kernel
theorem dX12_goesThrough_222 : decode cX12_goesThrough 222 = .ok (.aload_n 0, 1) := by decide +kernel
theorem dX12_goesThrough_223 : decode cX12_goesThrough 223 = .ok (.iload 6, 2) := by decide +kernel
theorem dX12_goesThrough_225 : decode cX12_goesThrough 225 = .ok (.invokevirtual 443, 3) := by decide +kernel
theorem dX12_goesThrough_228 : decode cX12_goesThrough 228 = .ok (.aload_n 0, 1) := by decide +kernel
theorem dX12_goesThrough_229 : decode cX12_goesThrough 229 = .ok (.getfield 73, 3) := by decide +kernel
theorem dX12_goesThrough_232 : decode cX12_goesThrough 232 = .ok (.iload 6, 2) := by decide +kernel
theorem dX12_goesThrough_234 : decode cX12_goesThrough 234 = .ok (.aload_n 0, 1) := by decide +kernel
theorem dX12_goesThrough_235 : decode cX12_goesThrough 235 = .ok (.invokevirtual 446, 3) := by decide +kernel
theorem dX12_goesThrough_238 : decode cX12_goesThrough 238 = .ok (.ineg, 1) := by decide +kernel
theorem dX12_goesThrough_239 : decode cX12_goesThrough 239 = .ok (.iconst 1, 1) := by decide +kernel
theorem dX12_goesThrough_240 : decode cX12_goesThrough 240 = .ok (.isub, 1) := by decide +kernel
theorem dX12_goesThrough_241 : decode cX12_goesThrough 241 = .ok (.iastore, 1) := by decide +kernel
theorem dX12_goesThrough_242 : decode cX12_goesThrough 242 = .ok (.goto (-205), 3) := by decide +kernel
theorem dX12_goesThrough_245 : decode cX12_goesThrough 245 = .ok (.iload 4, 2) := by decide +kernel
theorem dX12_goesThrough_247 : decode cX12_goesThrough 247 = .ok (.ifCond .eq 20, 3) := by decide +kernel
theorem dX12_goesThrough_250 : decode cX12_goesThrough 250 = .ok (.aload_n 0, 1) := by decide +kernel
theorem dX12_goesThrough_251 : decode cX12_goesThrough 251 = .ok (.iconst 1, 1) := by decide +kernel
theorem dX12_goesThrough_252 : decode cX12_goesThrough 252 = .ok (.iload_n 1, 1) := by decide +kernel
theorem dX12_goesThrough_253 : decode cX12_goesThrough 253 = .ok (.isub, 1) := by decide +kernel
theorem dX12_goesThrough_254 : decode cX12_goesThrough 254 = .ok (.invokevirtual 342, 3) := by decide +kernel
theorem dX12_goesThrough_257 : decode cX12_goesThrough 257 = .ok (.aload_n 0, 1) := by decide +kernel
theorem dX12_goesThrough_258 : decode cX12_goesThrough 258 = .ok (.getfield 440, 3) := by decide +kernel
theorem dX12_goesThrough_261 : decode cX12_goesThrough 261 = .ok (.if_icmp .gt 16, 3) := by decide +kernel
theorem dX12_goesThrough_264 : decode cX12_goesThrough 264 = .ok (.goto (-227), 3) := by decide +kernel
theorem dX12_goesThrough_267 : decode cX12_goesThrough 267 = .ok (.aload_n 0, 1) := by decide +kernel
theorem dX12_goesThrough_268 : decode cX12_goesThrough 268 = .ok (.invokevirtual 413, 3) := by decide +kernel
theorem dX12_goesThrough_271 : decode cX12_goesThrough 271 = .ok (.ifCond .ne 6, 3) := by decide +kernel
theorem dX12_goesThrough_274 : decode cX12_goesThrough 274 = .ok (.goto (-237), 3) := by decide +kernel
theorem dX12_goesThrough_277 : decode cX12_goesThrough 277 = .ok (.aload_n 0, 1) := by decide +kernel
theorem dX12_goesThrough_278 : decode cX12_goesThrough 278 = .ok (.iload 4, 2) := by decide +kernel
theorem dX12_goesThrough_280 : decode cX12_goesThrough 280 = .ok (.ifCond .eq 13, 3) := by decide +kernel
theorem dX12_goesThrough_283 : decode cX12_goesThrough 283 = .ok (.aload_n 0, 1) := by decide +kernel
theorem dX12_goesThrough_284 : decode cX12_goesThrough 284 = .ok (.iconst 1, 1) := by decide +kernel
theorem dX12_goesThrough_285 : decode cX12_goesThrough 285 = .ok (.iload_n 1, 1) := by decide +kernel
theorem dX12_goesThrough_286 : decode cX12_goesThrough 286 = .ok (.isub, 1) := by decide +kernel
theorem dX12_goesThrough_287 : decode cX12_goesThrough 287 = .ok (.invokevirtual 342, 3) := by decide +kernel
theorem dX12_goesThrough_290 : decode cX12_goesThrough 290 = .ok (.goto 5, 3) := by decide +kernel
theorem dX12_goesThrough_293 : decode cX12_goesThrough 293 = .ok (.iload 8, 2) := by decide +kernel
theorem dX12_goesThrough_295 : decode cX12_goesThrough 295 = .ok (.putfield 440, 3) := by decide +kernel
theorem dX12_goesThrough_298 : decode cX12_goesThrough 298 = .ok (.aload_n 0, 1) := by decide +kernel
theorem dX12_goesThrough_299 : decode cX12_goesThrough 299 = .ok (.iload 6, 2) := by decide +kernel
theorem dX12_goesThrough_301 : decode cX12_goesThrough 301 = .ok (.iconst 1, 1) := by decide +kernel
theorem dX12_goesThrough_302 : decode cX12_goesThrough 302 = .ok (.iadd, 1) := by decide +kernel
theorem dX12_goesThrough_303 : decode cX12_goesThrough 303 = .ok (.invokevirtual 456, 3) := by decide +kernel
theorem dX12_goesThrough_306 : decode cX12_goesThrough 306 = .ok (.goto (-269), 3) := by decide +kernel
theorem dX12_goesThrough_309 : decode cX12_goesThrough 309 = .ok (.aload_n 0, 1) := by decide +kernel
theorem dX12_goesThrough_310 : decode cX12_goesThrough 310 = .ok (.invokevirtual 423, 3) := by decide +kernel
theorem dX12_goesThrough_313 : decode cX12_goesThrough 313 = .ok (.return_, 1) := by decide +kernel
set_option maxRecDepth 20000 in
theorem ggX12_canLike_X12_isRiver : GoodIn wsX12_canLike wsX12_isRiver := goodIn_r _ [5, 6, 23, 24, 25, 26, 27, 28, 29, 30, 31, 32, 33, 34, 35, 36, 37, 38, 39, 40, 41, 42, 43, 44, 45, 46, 47, 48, 49, 50, 51, 52, 53, 54, 55, 56, 57, 58, 59, 60, 61, 62, 63, 64] rfl (by decide +kernel)
set_option maxRecDepth 20000 in
theorem gX12_canLike_X12_isRiver : GoodIn wsX12_canLike (wsV RX12 331 RX12 yX12_isRiver wsX12_isRiver) := goodIn_app (goodIn_of _ (by decide +kernel)) ggX12_canLike_X12_isRiver
set_option maxRecDepth 20000 in
theorem ggX12_canLike_X12_isSide : GoodIn wsX12_canLike wsX12_isSide := goodIn_r _ [9] rfl (by decide +kernel)
set_option maxRecDepth 20000 in
theorem gX12_canLike_X12_isSide : GoodIn wsX12_canLike (va_wsS RX12 334 yX12_isSide wsX12_isSide) := goodIn_app (goodIn_of _ (by decide +kernel)) ggX12_canLike_X12_isSide
set_option maxRecDepth 20000 in
theorem ggX12_canLike_X12_isRule : GoodIn wsX12_canLike wsX12_isRule := goodIn_r _ [13, 14, 23, 24, 25, 26, 27, 28, 29, 30, 31, 32, 33, 34, 35, 36, 37, 38, 39, 40, 41, 42, 43, 44, 45, 46, 47, 48, 49, 50, 51, 52, 53, 54, 55, 56, 57, 58, 59, 60, 61, 62, 63, 64] rfl (by decide +kernel)
set_option maxRecDepth 20000 in
theorem gX12_canLike_X12_isRule : GoodIn wsX12_canLike (wsV RX12 399 RX12 yX12_isRule wsX12_isRule) := goodIn_app (goodIn_of _ (by decide +kernel)) ggX12_canLike_X12_isRule
set_option maxRecDepth 20000 in
theorem ggX12_canLike_X12_isMet : GoodIn wsX12_canLike wsX12_isMet := goodIn_r _ [18, 19, 20, 21, 4, 22, 6, 23, 24, 25, 26, 27, 28, 29, 30, 31, 32, 33, 34, 35, 36, 37, 38, 39, 40, 41, 42, 43, 44, 45, 46, 47, 48, 49, 50, 51, 52, 53, 54, 55, 56, 57, 58, 59, 60, 61, 62, 63, 64] rfl (by decide +kernel)
set_option maxRecDepth 20000 in
theorem gX12_canLike_X12_isMet : GoodIn wsX12_canLike (wsV RX12 393 RX12 yX12_isMet wsX12_isMet) := goodIn_app (goodIn_of _ (by decide +kernel)) ggX12_canLike_X12_isMet
theorem dX12_canLike_0 : decode cX12_canLike 0 = .ok (.aload_n 0, 1) := by decide +kernel
theorem dX12_canLike_1 : decode cX12_canLike 1 = .ok (.invokevirtual 331, 3) := by decide +kernel
theorem dX12_canLike_4 : decode cX12_canLike 4 = .ok (.ifCond .eq 29, 3) := by decide +kernel
theorem dX12_canLike_7 : decode cX12_canLike 7 = .ok (.iload_n 1, 1) := by decide +kernel
theorem dX12_canLike_8 : decode cX12_canLike 8 = .ok (.invokestatic 334, 3) := by decide +kernel
theorem dX12_canLike_11 : decode cX12_canLike 11 = .ok (.ifCond .eq 22, 3) := by decide +kernel
theorem dX12_canLike_14 : decode cX12_canLike 14 = .ok (.aload_n 0, 1) := by decide +kernel
theorem dX12_canLike_15 : decode cX12_canLike 15 = .ok (.iload_n 2, 1) := by decide +kernel
theorem dX12_canLike_16 : decode cX12_canLike 16 = .ok (.invokevirtual 399, 3) := by decide +kernel
theorem dX12_canLike_19 : decode cX12_canLike 19 = .ok (.ifCond .eq 14, 3) := by decide +kernel
theorem dX12_canLike_22 : decode cX12_canLike 22 = .ok (.aload_n 0, 1) := by decide +kernel
theorem dX12_canLike_23 : decode cX12_canLike 23 = .ok (.invokevirtual 393, 3) := by decide +kernel
theorem dX12_canLike_26 : decode cX12_canLike 26 = .ok (.ifCond .ne 7, 3) := by decide +kernel
theorem dX12_canLike_29 : decode cX12_canLike 29 = .ok (.iconst 1, 1) := by decide +kernel
theorem dX12_canLike_30 : decode cX12_canLike 30 = .ok (.goto 4, 3) := by decide +kernel
theorem dX12_canLike_33 : decode cX12_canLike 33 = .ok (.iconst 0, 1) := by decide +kernel
theorem dX12_canLike_34 : decode cX12_canLike 34 = .ok (.ireturn, 1) := by decide +kernel
set_option maxRecDepth 20000 in
theorem ggX12_straight_X12_canLike : GoodIn wsX12_straight wsX12_canLike := goodIn_r _ [9, 10, 11, 12, 8, 13, 14, 15, 16, 17, 18, 19, 20, 21, 22, 23, 24, 25, 26, 27, 28, 29, 30, 172, 173, 174, 175, 176, 177, 178, 179, 180, 181, 182, 183, 184, 185, 186, 187, 188, 189, 190, 191, 192, 193, 194, 195, 196, 197, 198, 199, 200, 201, 202, 203, 204, 205, 206, 207, 208, 209, 210, 211, 212, 213] rfl (by decide +kernel)
set_option maxRecDepth 20000 in
theorem gX12_straight_X12_canLike : GoodIn wsX12_straight (wsV RX12 459 RX12 yX12_canLike wsX12_canLike) := goodIn_app (goodIn_of _ (by decide +kernel)) ggX12_straight_X12_canLike
set_option maxRecDepth 20000 in
theorem ggX12_straight_X12_in : GoodIn wsX12_straight wsX12_in := goodIn_r _ [33] rfl (by decide +kernel)
set_option maxRecDepth 20000 in
theorem gX12_straight_X12_in : GoodIn wsX12_straight (va_wsS RX12 131 yX12_in wsX12_in) := goodIn_app (goodIn_of _ (by decide +kernel)) ggX12_straight_X12_in
set_option maxRecDepth 20000 in
theorem ggX12_straight_X12_goesThrough : GoodIn wsX12_straight wsX12_goesThrough := goodIn_r _ [37, 3, 38, 39, 40, 41, 42, 8, 43, 44, 14, 45, 46, 47, 48, 49, 50, 51, 52, 53, 54, 55, 56, 57, 58, 59, 60, 61, 62, 63, 64, 65, 66, 67, 68, 69, 70, 71, 72, 73, 74, 75, 76, 77, 78, 79, 80, 81, 82, 83, 84, 85, 86, 87, 88, 89, 27, 28, 29, 30, 90, 91, 92, 93, 94, 95, 96, 97, 98, 99, 100, 101, 102, 103, 104, 105, 106, 107, 108, 109, 110, 111, 112, 113, 114, 115, 116, 117, 118, 119, 120, 121, 122, 123, 124, 125, 126, 127, 128, 129, 130, 131, 132, 133, 134, 135, 136, 137, 138, 139, 140, 141, 142, 143, 144, 145, 146, 147, 148, 149, 150, 151, 23, 24, 25, 26, 152, 153, 154, 155, 156, 157, 158, 159, 160, 161, 162, 163, 164, 165, 166, 167, 4, 168, 169, 170, 171, 172, 173, 174, 175, 176, 177, 178, 179, 180, 181, 182, 183, 184, 185, 186, 187, 188, 189, 190, 191, 192, 193, 194, 195, 196, 197, 198, 199, 200, 201, 202, 203, 204, 205, 206, 207, 208, 209, 210, 211, 212, 213] rfl (by decide +kernel)
set_option maxRecDepth 20000 in
theorem gX12_straight_X12_goesThrough : GoodIn wsX12_straight (wsV RX12 462 RX12 yX12_goesThrough wsX12_goesThrough) := goodIn_app (goodIn_of _ (by decide +kernel)) ggX12_straight_X12_goesThrough
theorem dX12_straight_0 : decode cX12_straight 0 = .ok (.aload_n 0, 1) := by decide +kernel
theorem dX12_straight_1 : decode cX12_straight 1 = .ok (.iload_n 1, 1) := by decide +kernel
theorem dX12_straight_2 : decode cX12_straight 2 = .ok (.iload_n 2, 1) := by decide +kernel
theorem dX12_straight_3 : decode cX12_straight 3 = .ok (.invokevirtual 459, 3) := by decide +kernel
theorem dX12_straight_6 : decode cX12_straight 6 = .ok (.ifCond .eq 15, 3) := by decide +kernel
theorem dX12_straight_9 : decode cX12_straight 9 = .ok (.iload_n 3, 1) := by decide +kernel
theorem dX12_straight_10 : decode cX12_straight 10 = .ok (.i2l, 1) := by decide +kernel
theorem dX12_straight_11 : decode cX12_straight 11 = .ok (.lconst 0, 1) := by decide +kernel
theorem dX12_straight_12 : decode cX12_straight 12 = .ok (.ldc2_w 340, 3) := by decide +kernel
theorem dX12_straight_15 : decode cX12_straight 15 = .ok (.invokestatic 131, 3) := by decide +kernel
theorem dX12_straight_18 : decode cX12_straight 18 = .ok (.ifCond .ne 7, 3) := by decide +kernel
theorem dX12_straight_21 : decode cX12_straight 21 = .ok (.ldc_w 339, 3) := by decide +kernel
theorem dX12_straight_24 : decode cX12_straight 24 = .ok (.ireturn, 1) := by decide +kernel
theorem dX12_straight_25 : decode cX12_straight 25 = .ok (.aload_n 0, 1) := by decide +kernel
theorem dX12_straight_26 : decode cX12_straight 26 = .ok (.iload_n 1, 1) := by decide +kernel
theorem dX12_straight_27 : decode cX12_straight 27 = .ok (.iload_n 2, 1) := by decide +kernel
theorem dX12_straight_28 : decode cX12_straight 28 = .ok (.bipush 6, 2) := by decide +kernel
theorem dX12_straight_30 : decode cX12_straight 30 = .ok (.iconst 0, 1) := by decide +kernel
theorem dX12_straight_31 : decode cX12_straight 31 = .ok (.iconst 0, 1) := by decide +kernel
theorem dX12_straight_32 : decode cX12_straight 32 = .ok (.invokevirtual 462, 3) := by decide +kernel
theorem dX12_straight_35 : decode cX12_straight 35 = .ok (.aload_n 0, 1) := by decide +kernel
theorem dX12_straight_36 : decode cX12_straight 36 = .ok (.getfield 440, 3) := by decide +kernel
theorem dX12_straight_39 : decode cX12_straight 39 = .ok (.ifCond .ge 8, 3) := by decide +kernel
theorem dX12_straight_42 : decode cX12_straight 42 = .ok (.bipush (-2), 2) := by decide +kernel
theorem dX12_straight_44 : decode cX12_straight 44 = .ok (.goto 22, 3) := by decide +kernel
theorem dX12_straight_47 : decode cX12_straight 47 = .ok (.iload_n 3, 1) := by decide +kernel
theorem dX12_straight_48 : decode cX12_straight 48 = .ok (.ifCond .ne 10, 3) := by decide +kernel
theorem dX12_straight_51 : decode cX12_straight 51 = .ok (.aload_n 0, 1) := by decide +kernel
theorem dX12_straight_52 : decode cX12_straight 52 = .ok (.getfield 440, 3) := by decide +kernel
theorem dX12_straight_55 : decode cX12_straight 55 = .ok (.goto 11, 3) := by decide +kernel
theorem dX12_straight_58 : decode cX12_straight 58 = .ok (.aload_n 0, 1) := by decide +kernel
theorem dX12_straight_59 : decode cX12_straight 59 = .ok (.getfield 79, 3) := by decide +kernel
theorem dX12_straight_62 : decode cX12_straight 62 = .ok (.iload_n 3, 1) := by decide +kernel
theorem dX12_straight_63 : decode cX12_straight 63 = .ok (.iconst 1, 1) := by decide +kernel
theorem dX12_straight_64 : decode cX12_straight 64 = .ok (.isub, 1) := by decide +kernel
theorem dX12_straight_65 : decode cX12_straight 65 = .ok (.iaload, 1) := by decide +kernel
theorem dX12_straight_66 : decode cX12_straight 66 = .ok (.ireturn, 1) := by decide +kernel
set_option maxRecDepth 20000 in
theorem ggX12_spite_X12_canLike : GoodIn wsX12_spite wsX12_canLike := goodIn_r _ [10, 11, 12, 13, 9, 14, 15, 16, 17, 18, 19, 20, 21, 22, 23, 24, 25, 26, 27, 28, 29, 30, 31, 173, 174, 175, 176, 177, 178, 179, 180, 181, 182, 183, 184, 185, 186, 187, 188, 189, 190, 191, 192, 193, 194, 195, 196, 197, 198, 199, 200, 201, 202, 203, 204, 205, 206, 207, 208, 209, 210, 211, 212, 213, 214] rfl (by decide +kernel)
set_option maxRecDepth 20000 in
theorem gX12_spite_X12_canLike : GoodIn wsX12_spite (wsV RX12 459 RX12 yX12_canLike wsX12_canLike) := goodIn_app (goodIn_of _ (by decide +kernel)) ggX12_spite_X12_canLike
set_option maxRecDepth 20000 in
theorem ggX12_spite_X12_in : GoodIn wsX12_spite wsX12_in := goodIn_r _ [34] rfl (by decide +kernel)
set_option maxRecDepth 20000 in
theorem gX12_spite_X12_in : GoodIn wsX12_spite (va_wsS RX12 131 yX12_in wsX12_in) := goodIn_app (goodIn_of _ (by decide +kernel)) ggX12_spite_X12_in
set_option maxRecDepth 20000 in
theorem ggX12_spite_X12_goesThrough : GoodIn wsX12_spite wsX12_goesThrough := goodIn_r _ [38, 4, 39, 40, 41, 42, 43, 9, 44, 45, 15, 46, 47, 48, 49, 50, 51, 52, 53, 54, 55, 56, 57, 58, 59, 60, 61, 62, 63, 64, 65, 66, 67, 68, 69, 70, 71, 72, 73, 74, 75, 76, 77, 78, 79, 80, 81, 82, 83, 84, 85, 86, 87, 88, 89, 90, 28, 29, 30, 31, 91, 92, 93, 94, 95, 96, 97, 98, 99, 100, 101, 102, 103, 104, 105, 106, 107, 108, 109, 110, 111, 112, 113, 114, 115, 116, 117, 118, 119, 120, 121, 122, 123, 124, 125, 126, 127, 128, 129, 130, 131, 132, 133, 134, 135, 136, 137, 138, 139, 140, 141, 142, 143, 144, 145, 146, 147, 148, 149, 150, 151, 152, 24, 25, 26, 27, 153, 154, 155, 156, 157, 158, 159, 160, 161, 162, 163, 164, 165, 166, 167, 168, 5, 169, 170, 171, 172, 173, 174, 175, 176, 177, 178, 179, 180, 181, 182, 183, 184, 185, 186, 187, 188, 189, 190, 191, 192, 193, 194, 195, 196, 197, 198, 199, 200, 201, 202, 203, 204, 205, 206, 207, 208, 209, 210, 211, 212, 213, 214] rfl (by decide +kernel)
set_option maxRecDepth 20000 in
theorem gX12_spite_X12_goesThrough : GoodIn wsX12_spite (wsV RX12 462 RX12 yX12_goesThrough wsX12_goesThrough) := goodIn_app (goodIn_of _ (by decide +kernel)) ggX12_spite_X12_goesThrough
theorem dX12_spite_0 : decode cX12_spite 0 = .ok (.aload_n 0, 1) := by decide +kernel
theorem dX12_spite_1 : decode cX12_spite 1 = .ok (.iload_n 1, 1) := by decide +kernel
theorem dX12_spite_2 : decode cX12_spite 2 = .ok (.iload_n 2, 1) := by decide +kernel
theorem dX12_spite_3 : decode cX12_spite 3 = .ok (.invokevirtual 459, 3) := by decide +kernel
theorem dX12_spite_6 : decode cX12_spite 6 = .ok (.ifCond .eq 28, 3) := by decide +kernel
theorem dX12_spite_9 : decode cX12_spite 9 = .ok (.iload_n 3, 1) := by decide +kernel
theorem dX12_spite_10 : decode cX12_spite 10 = .ok (.i2l, 1) := by decide +kernel
theorem dX12_spite_11 : decode cX12_spite 11 = .ok (.lconst 0, 1) := by decide +kernel
theorem dX12_spite_12 : decode cX12_spite 12 = .ok (.ldc2_w 466, 3) := by decide +kernel
theorem dX12_spite_15 : decode cX12_spite 15 = .ok (.invokestatic 131, 3) := by decide +kernel
theorem dX12_spite_18 : decode cX12_spite 18 = .ok (.ifCond .eq 16, 3) := by decide +kernel
theorem dX12_spite_21 : decode cX12_spite 21 = .ok (.iload 4, 2) := by decide +kernel
theorem dX12_spite_23 : decode cX12_spite 23 = .ok (.i2l, 1) := by decide +kernel
theorem dX12_spite_24 : decode cX12_spite 24 = .ok (.lconst 0, 1) := by decide +kernel
theorem dX12_spite_25 : decode cX12_spite 25 = .ok (.ldc2_w 468, 3) := by decide +kernel
theorem dX12_spite_28 : decode cX12_spite 28 = .ok (.invokestatic 131, 3) := by decide +kernel
theorem dX12_spite_31 : decode cX12_spite 31 = .ok (.ifCond .ne 7, 3) := by decide +kernel
theorem dX12_spite_34 : decode cX12_spite 34 = .ok (.ldc_w 339, 3) := by decide +kernel
theorem dX12_spite_37 : decode cX12_spite 37 = .ok (.ireturn, 1) := by decide +kernel
theorem dX12_spite_38 : decode cX12_spite 38 = .ok (.aload_n 0, 1) := by decide +kernel
theorem dX12_spite_39 : decode cX12_spite 39 = .ok (.iload_n 1, 1) := by decide +kernel
theorem dX12_spite_40 : decode cX12_spite 40 = .ok (.iload_n 2, 1) := by decide +kernel
theorem dX12_spite_41 : decode cX12_spite 41 = .ok (.iconst 4, 1) := by decide +kernel
theorem dX12_spite_42 : decode cX12_spite 42 = .ok (.iconst 1, 1) := by decide +kernel
theorem dX12_spite_43 : decode cX12_spite 43 = .ok (.iload_n 3, 1) := by decide +kernel
theorem dX12_spite_44 : decode cX12_spite 44 = .ok (.invokevirtual 462, 3) := by decide +kernel
theorem dX12_spite_47 : decode cX12_spite 47 = .ok (.iload 4, 2) := by decide +kernel
theorem dX12_spite_49 : decode cX12_spite 49 = .ok (.ifCond .ne 10, 3) := by decide +kernel
theorem dX12_spite_52 : decode cX12_spite 52 = .ok (.aload_n 0, 1) := by decide +kernel
theorem dX12_spite_53 : decode cX12_spite 53 = .ok (.getfield 440, 3) := by decide +kernel
theorem dX12_spite_56 : decode cX12_spite 56 = .ok (.goto 12, 3) := by decide +kernel
theorem dX12_spite_59 : decode cX12_spite 59 = .ok (.aload_n 0, 1) := by decide +kernel
theorem dX12_spite_60 : decode cX12_spite 60 = .ok (.getfield 79, 3) := by decide +kernel
theorem dX12_spite_63 : decode cX12_spite 63 = .ok (.iload 4, 2) := by decide +kernel
theorem dX12_spite_65 : decode cX12_spite 65 = .ok (.iconst 1, 1) := by decide +kernel
theorem dX12_spite_66 : decode cX12_spite 66 = .ok (.isub, 1) := by decide +kernel
theorem dX12_spite_67 : decode cX12_spite 67 = .ok (.iaload, 1) := by decide +kernel
theorem dX12_spite_68 : decode cX12_spite 68 = .ok (.ireturn, 1) := by decide +kernel
set_option maxRecDepth 20000 in
theorem ggX12_canMeet_X12_gap : GoodIn wsX12_canMeet wsX12_gap := goodIn_r _ [6, 1, 14, 15, 16, 17, 18, 19, 20, 21, 22, 23, 24, 25, 26, 27, 28, 29, 30, 31, 32, 33, 34, 35, 36, 37, 38, 39, 40, 41, 42, 43, 44, 45, 46, 47, 48, 49, 50, 51, 52, 53, 54, 55] rfl (by decide +kernel)
set_option maxRecDepth 20000 in
theorem gX12_canMeet_X12_gap : GoodIn wsX12_canMeet (wsV RX12 314 RX12 yX12_gap wsX12_gap) := goodIn_app (goodIn_of _ (by decide +kernel)) ggX12_canMeet_X12_gap
set_option maxRecDepth 20000 in
theorem ggX12_canMeet_X12_yardOf : GoodIn wsX12_canMeet wsX12_yardOf := goodIn_r _ [10, 1, 14, 15, 16, 17, 18, 19, 20, 21, 22, 23, 24, 25, 26, 27, 28, 29, 30, 31, 32, 33, 34, 35, 36, 37, 38, 39, 40, 41, 42, 43, 44, 45, 46, 47, 48, 49, 50, 51, 52, 53, 54, 55] rfl (by decide +kernel)
set_option maxRecDepth 20000 in
theorem gX12_canMeet_X12_yardOf : GoodIn wsX12_canMeet (wsV RX12 317 RX12 yX12_yardOf wsX12_yardOf) := goodIn_app (goodIn_of _ (by decide +kernel)) ggX12_canMeet_X12_yardOf
set_option maxRecDepth 20000 in
theorem ggX12_canMeet_X12_plain : GoodIn wsX12_canMeet wsX12_plain := goodIn_r _ [13] rfl (by decide +kernel)
set_option maxRecDepth 20000 in
theorem gX12_canMeet_X12_plain : GoodIn wsX12_canMeet (va_wsS RX12 324 yX12_plain wsX12_plain) := goodIn_app (goodIn_of _ (by decide +kernel)) ggX12_canMeet_X12_plain
theorem dX12_canMeet_0 : decode cX12_canMeet 0 = .ok (.aload_n 0, 1) := by decide +kernel
theorem dX12_canMeet_1 : decode cX12_canMeet 1 = .ok (.getfield 45, 3) := by decide +kernel
theorem dX12_canMeet_4 : decode cX12_canMeet 4 = .ok (.iconst 2, 1) := by decide +kernel
theorem dX12_canMeet_5 : decode cX12_canMeet 5 = .ok (.iaload, 1) := by decide +kernel
theorem dX12_canMeet_6 : decode cX12_canMeet 6 = .ok (.aload_n 0, 1) := by decide +kernel
theorem dX12_canMeet_7 : decode cX12_canMeet 7 = .ok (.invokevirtual 314, 3) := by decide +kernel
theorem dX12_canMeet_10 : decode cX12_canMeet 10 = .ok (.iload_n 1, 1) := by decide +kernel
theorem dX12_canMeet_11 : decode cX12_canMeet 11 = .ok (.iadd, 1) := by decide +kernel
theorem dX12_canMeet_12 : decode cX12_canMeet 12 = .ok (.iload_n 2, 1) := by decide +kernel
theorem dX12_canMeet_13 : decode cX12_canMeet 13 = .ok (.iadd, 1) := by decide +kernel
theorem dX12_canMeet_14 : decode cX12_canMeet 14 = .ok (.iconst 1, 1) := by decide +kernel
theorem dX12_canMeet_15 : decode cX12_canMeet 15 = .ok (.iadd, 1) := by decide +kernel
theorem dX12_canMeet_16 : decode cX12_canMeet 16 = .ok (.imul, 1) := by decide +kernel
theorem dX12_canMeet_17 : decode cX12_canMeet 17 = .ok (.istore_n 3, 1) := by decide +kernel
theorem dX12_canMeet_18 : decode cX12_canMeet 18 = .ok (.iconst 0, 1) := by decide +kernel
theorem dX12_canMeet_19 : decode cX12_canMeet 19 = .ok (.istore 4, 2) := by decide +kernel
theorem dX12_canMeet_21 : decode cX12_canMeet 21 = .ok (.iload 4, 2) := by decide +kernel
theorem dX12_canMeet_23 : decode cX12_canMeet 23 = .ok (.iconst 2, 1) := by decide +kernel
theorem dX12_canMeet_24 : decode cX12_canMeet 24 = .ok (.if_icmp .ge 55, 3) := by decide +kernel
theorem dX12_canMeet_27 : decode cX12_canMeet 27 = .ok (.aload_n 0, 1) := by decide +kernel
theorem dX12_canMeet_28 : decode cX12_canMeet 28 = .ok (.iconst 0, 1) := by decide +kernel
theorem dX12_canMeet_29 : decode cX12_canMeet 29 = .ok (.aload_n 0, 1) := by decide +kernel
theorem dX12_canMeet_30 : decode cX12_canMeet 30 = .ok (.getfield 45, 3) := by decide +kernel
theorem dX12_canMeet_33 : decode cX12_canMeet 33 = .ok (.bipush 6, 2) := by decide +kernel
theorem dX12_canMeet_35 : decode cX12_canMeet 35 = .ok (.iaload, 1) := by decide +kernel
theorem dX12_canMeet_36 : decode cX12_canMeet 36 = .ok (.iconst 1, 1) := by decide +kernel
theorem dX12_canMeet_37 : decode cX12_canMeet 37 = .ok (.isub, 1) := by decide +kernel
theorem dX12_canMeet_38 : decode cX12_canMeet 38 = .ok (.iload_n 1, 1) := by decide +kernel
theorem dX12_canMeet_39 : decode cX12_canMeet 39 = .ok (.isub, 1) := by decide +kernel
theorem dX12_canMeet_40 : decode cX12_canMeet 40 = .ok (.iload 4, 2) := by decide +kernel
theorem dX12_canMeet_42 : decode cX12_canMeet 42 = .ok (.invokevirtual 317, 3) := by decide +kernel
theorem dX12_canMeet_45 : decode cX12_canMeet 45 = .ok (.aload_n 0, 1) := by decide +kernel
theorem dX12_canMeet_46 : decode cX12_canMeet 46 = .ok (.iconst 1, 1) := by decide +kernel
