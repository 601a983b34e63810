theorem dX10_riverWord_59 : decode cX10_riverWord 59 = .ok (.ireturn, 1) := by decide +kernel
theorem dX10_riverWord_60 : decode cX10_riverWord 60 = .ok (.aload_n 0, 1) := by decide +kernel
theorem dX10_riverWord_61 : decode cX10_riverWord 61 = .ok (.iload_n 1, 1) := by decide +kernel
theorem dX10_riverWord_62 : decode cX10_riverWord 62 = .ok (.iload_n 2, 1) := by decide +kernel
theorem dX10_riverWord_63 : decode cX10_riverWord 63 = .ok (.ldc 82, 2) := by decide +kernel
theorem dX10_riverWord_65 : decode cX10_riverWord 65 = .ok (.invokestatic 72, 3) := by decide +kernel
theorem dX10_riverWord_68 : decode cX10_riverWord 68 = .ok (.ifCond .eq 7, 3) := by decide +kernel
theorem dX10_riverWord_71 : decode cX10_riverWord 71 = .ok (.sipush 260, 3) := by decide +kernel
theorem dX10_riverWord_74 : decode cX10_riverWord 74 = .ok (.ireturn, 1) := by decide +kernel
theorem dX10_riverWord_75 : decode cX10_riverWord 75 = .ok (.aload_n 0, 1) := by decide +kernel
theorem dX10_riverWord_76 : decode cX10_riverWord 76 = .ok (.iload_n 1, 1) := by decide +kernel
theorem dX10_riverWord_77 : decode cX10_riverWord 77 = .ok (.iload_n 2, 1) := by decide +kernel
theorem dX10_riverWord_78 : decode cX10_riverWord 78 = .ok (.ldc 84, 2) := by decide +kernel
theorem dX10_riverWord_80 : decode cX10_riverWord 80 = .ok (.invokestatic 72, 3) := by decide +kernel
theorem dX10_riverWord_83 : decode cX10_riverWord 83 = .ok (.ifCond .eq 9, 3) := by decide +kernel
theorem dX10_riverWord_86 : decode cX10_riverWord 86 = .ok (.sipush 261, 3) := by decide +kernel
theorem dX10_riverWord_89 : decode cX10_riverWord 89 = .ok (.goto 4, 3) := by decide +kernel
theorem dX10_riverWord_92 : decode cX10_riverWord 92 = .ok (.iconst 1, 1) := by decide +kernel
theorem dX10_riverWord_93 : decode cX10_riverWord 93 = .ok (.ireturn, 1) := by decide +kernel
set_option maxRecDepth 20000 in
theorem ggX10_ruleWord_X10_spells : GoodIn wsX10_ruleWord wsX10_spells := goodIn_r _ [4, 5, 6, 7, 8, 9, 10, 11, 12, 13, 14, 15, 16, 17, 18, 19, 20, 21, 22, 23, 24, 25, 26, 27, 28, 29, 30, 31, 32, 33, 34, 35, 36, 37, 38, 39, 40, 41, 42, 43, 44, 45, 46, 47, 48, 49, 50, 51, 52, 53] rfl (by decide +kernel)
set_option maxRecDepth 20000 in
theorem gX10_ruleWord_X10_spells : GoodIn wsX10_ruleWord (va_wsS RX10 72 yX10_spells wsX10_spells) := goodIn_app (goodIn_of _ (by decide +kernel)) ggX10_ruleWord_X10_spells
set_option maxRecDepth 20000 in
theorem ggX10_ruleWord_X10_valueWord : GoodIn wsX10_ruleWord wsX10_valueWord := goodIn_r _ [56, 1, 2, 3, 4, 5, 6, 7, 8, 9, 10, 11, 12, 13, 14, 15, 16, 17, 18, 19, 20, 21, 22, 23, 24, 25, 26, 27, 28, 29, 30, 31, 32, 33, 34, 35, 36, 37, 38, 39, 40, 41, 42, 43, 44, 45, 46, 47, 48, 49, 50, 51, 52, 53] rfl (by decide +kernel)
set_option maxRecDepth 20000 in
theorem gX10_ruleWord_X10_valueWord : GoodIn wsX10_ruleWord (va_wsS RX10 102 yX10_valueWord wsX10_valueWord) := goodIn_app (goodIn_of _ (by decide +kernel)) ggX10_ruleWord_X10_valueWord
theorem dX10_ruleWord_0 : decode cX10_ruleWord 0 = .ok (.aload_n 0, 1) := by decide +kernel
theorem dX10_ruleWord_1 : decode cX10_ruleWord 1 = .ok (.iload_n 1, 1) := by decide +kernel
theorem dX10_ruleWord_2 : decode cX10_ruleWord 2 = .ok (.iload_n 2, 1) := by decide +kernel
theorem dX10_ruleWord_3 : decode cX10_ruleWord 3 = .ok (.ldc 86, 2) := by decide +kernel
theorem dX10_ruleWord_5 : decode cX10_ruleWord 5 = .ok (.invokestatic 72, 3) := by decide +kernel
theorem dX10_ruleWord_8 : decode cX10_ruleWord 8 = .ok (.ifCond .eq 7, 3) := by decide +kernel
theorem dX10_ruleWord_11 : decode cX10_ruleWord 11 = .ok (.sipush 262, 3) := by decide +kernel
theorem dX10_ruleWord_14 : decode cX10_ruleWord 14 = .ok (.ireturn, 1) := by decide +kernel
theorem dX10_ruleWord_15 : decode cX10_ruleWord 15 = .ok (.aload_n 0, 1) := by decide +kernel
theorem dX10_ruleWord_16 : decode cX10_ruleWord 16 = .ok (.iload_n 1, 1) := by decide +kernel
theorem dX10_ruleWord_17 : decode cX10_ruleWord 17 = .ok (.iload_n 2, 1) := by decide +kernel
theorem dX10_ruleWord_18 : decode cX10_ruleWord 18 = .ok (.ldc 88, 2) := by decide +kernel
theorem dX10_ruleWord_20 : decode cX10_ruleWord 20 = .ok (.invokestatic 72, 3) := by decide +kernel
theorem dX10_ruleWord_23 : decode cX10_ruleWord 23 = .ok (.ifCond .eq 7, 3) := by decide +kernel
theorem dX10_ruleWord_26 : decode cX10_ruleWord 26 = .ok (.sipush 263, 3) := by decide +kernel
theorem dX10_ruleWord_29 : decode cX10_ruleWord 29 = .ok (.ireturn, 1) := by decide +kernel
theorem dX10_ruleWord_30 : decode cX10_ruleWord 30 = .ok (.aload_n 0, 1) := by decide +kernel
theorem dX10_ruleWord_31 : decode cX10_ruleWord 31 = .ok (.iload_n 1, 1) := by decide +kernel
theorem dX10_ruleWord_32 : decode cX10_ruleWord 32 = .ok (.iload_n 2, 1) := by decide +kernel
theorem dX10_ruleWord_33 : decode cX10_ruleWord 33 = .ok (.ldc 90, 2) := by decide +kernel
theorem dX10_ruleWord_35 : decode cX10_ruleWord 35 = .ok (.invokestatic 72, 3) := by decide +kernel
theorem dX10_ruleWord_38 : decode cX10_ruleWord 38 = .ok (.ifCond .eq 7, 3) := by decide +kernel
theorem dX10_ruleWord_41 : decode cX10_ruleWord 41 = .ok (.sipush 264, 3) := by decide +kernel
theorem dX10_ruleWord_44 : decode cX10_ruleWord 44 = .ok (.ireturn, 1) := by decide +kernel
theorem dX10_ruleWord_45 : decode cX10_ruleWord 45 = .ok (.aload_n 0, 1) := by decide +kernel
theorem dX10_ruleWord_46 : decode cX10_ruleWord 46 = .ok (.iload_n 1, 1) := by decide +kernel
theorem dX10_ruleWord_47 : decode cX10_ruleWord 47 = .ok (.iload_n 2, 1) := by decide +kernel
theorem dX10_ruleWord_48 : decode cX10_ruleWord 48 = .ok (.ldc 92, 2) := by decide +kernel
theorem dX10_ruleWord_50 : decode cX10_ruleWord 50 = .ok (.invokestatic 72, 3) := by decide +kernel
theorem dX10_ruleWord_53 : decode cX10_ruleWord 53 = .ok (.ifCond .eq 7, 3) := by decide +kernel
theorem dX10_ruleWord_56 : decode cX10_ruleWord 56 = .ok (.sipush 265, 3) := by decide +kernel
theorem dX10_ruleWord_59 : decode cX10_ruleWord 59 = .ok (.ireturn, 1) := by decide +kernel
theorem dX10_ruleWord_60 : decode cX10_ruleWord 60 = .ok (.aload_n 0, 1) := by decide +kernel
theorem dX10_ruleWord_61 : decode cX10_ruleWord 61 = .ok (.iload_n 1, 1) := by decide +kernel
theorem dX10_ruleWord_62 : decode cX10_ruleWord 62 = .ok (.iload_n 2, 1) := by decide +kernel
theorem dX10_ruleWord_63 : decode cX10_ruleWord 63 = .ok (.ldc 94, 2) := by decide +kernel
theorem dX10_ruleWord_65 : decode cX10_ruleWord 65 = .ok (.invokestatic 72, 3) := by decide +kernel
theorem dX10_ruleWord_68 : decode cX10_ruleWord 68 = .ok (.ifCond .eq 7, 3) := by decide +kernel
theorem dX10_ruleWord_71 : decode cX10_ruleWord 71 = .ok (.sipush 266, 3) := by decide +kernel
theorem dX10_ruleWord_74 : decode cX10_ruleWord 74 = .ok (.ireturn, 1) := by decide +kernel
theorem dX10_ruleWord_75 : decode cX10_ruleWord 75 = .ok (.aload_n 0, 1) := by decide +kernel
theorem dX10_ruleWord_76 : decode cX10_ruleWord 76 = .ok (.iload_n 1, 1) := by decide +kernel
theorem dX10_ruleWord_77 : decode cX10_ruleWord 77 = .ok (.iload_n 2, 1) := by decide +kernel
theorem dX10_ruleWord_78 : decode cX10_ruleWord 78 = .ok (.ldc 96, 2) := by decide +kernel
theorem dX10_ruleWord_80 : decode cX10_ruleWord 80 = .ok (.invokestatic 72, 3) := by decide +kernel
theorem dX10_ruleWord_83 : decode cX10_ruleWord 83 = .ok (.ifCond .eq 7, 3) := by decide +kernel
theorem dX10_ruleWord_86 : decode cX10_ruleWord 86 = .ok (.sipush 267, 3) := by decide +kernel
theorem dX10_ruleWord_89 : decode cX10_ruleWord 89 = .ok (.ireturn, 1) := by decide +kernel
theorem dX10_ruleWord_90 : decode cX10_ruleWord 90 = .ok (.aload_n 0, 1) := by decide +kernel
theorem dX10_ruleWord_91 : decode cX10_ruleWord 91 = .ok (.iload_n 1, 1) := by decide +kernel
theorem dX10_ruleWord_92 : decode cX10_ruleWord 92 = .ok (.iload_n 2, 1) := by decide +kernel
theorem dX10_ruleWord_93 : decode cX10_ruleWord 93 = .ok (.ldc 98, 2) := by decide +kernel
theorem dX10_ruleWord_95 : decode cX10_ruleWord 95 = .ok (.invokestatic 72, 3) := by decide +kernel
theorem dX10_ruleWord_98 : decode cX10_ruleWord 98 = .ok (.ifCond .eq 7, 3) := by decide +kernel
theorem dX10_ruleWord_101 : decode cX10_ruleWord 101 = .ok (.sipush 268, 3) := by decide +kernel
theorem dX10_ruleWord_104 : decode cX10_ruleWord 104 = .ok (.ireturn, 1) := by decide +kernel
theorem dX10_ruleWord_105 : decode cX10_ruleWord 105 = .ok (.aload_n 0, 1) := by decide +kernel
theorem dX10_ruleWord_106 : decode cX10_ruleWord 106 = .ok (.iload_n 1, 1) := by decide +kernel
theorem dX10_ruleWord_107 : decode cX10_ruleWord 107 = .ok (.iload_n 2, 1) := by decide +kernel
theorem dX10_ruleWord_108 : decode cX10_ruleWord 108 = .ok (.ldc 100, 2) := by decide +kernel
theorem dX10_ruleWord_110 : decode cX10_ruleWord 110 = .ok (.invokestatic 72, 3) := by decide +kernel
theorem dX10_ruleWord_113 : decode cX10_ruleWord 113 = .ok (.ifCond .eq 9, 3) := by decide +kernel
theorem dX10_ruleWord_116 : decode cX10_ruleWord 116 = .ok (.sipush 269, 3) := by decide +kernel
theorem dX10_ruleWord_119 : decode cX10_ruleWord 119 = .ok (.goto 9, 3) := by decide +kernel
theorem dX10_ruleWord_122 : decode cX10_ruleWord 122 = .ok (.aload_n 0, 1) := by decide +kernel
theorem dX10_ruleWord_123 : decode cX10_ruleWord 123 = .ok (.iload_n 1, 1) := by decide +kernel
theorem dX10_ruleWord_124 : decode cX10_ruleWord 124 = .ok (.iload_n 2, 1) := by decide +kernel
theorem dX10_ruleWord_125 : decode cX10_ruleWord 125 = .ok (.invokestatic 102, 3) := by decide +kernel
theorem dX10_ruleWord_128 : decode cX10_ruleWord 128 = .ok (.ireturn, 1) := by decide +kernel
set_option maxRecDepth 20000 in
theorem ggX10_valueWord_X10_spells : GoodIn wsX10_valueWord wsX10_spells := goodIn_r _ [4, 5, 6, 7, 8, 9, 10, 11, 12, 13, 14, 15, 16, 17, 18, 19, 20, 21, 22, 23, 24, 25, 26, 27, 28, 29, 30, 31, 32, 33, 34, 35, 36, 37, 38, 39, 40, 41, 42, 43, 44, 45, 46, 47, 48, 49, 50, 51, 52, 53] rfl (by decide +kernel)
set_option maxRecDepth 20000 in
theorem gX10_valueWord_X10_spells : GoodIn wsX10_valueWord (va_wsS RX10 72 yX10_spells wsX10_spells) := goodIn_app (goodIn_of _ (by decide +kernel)) ggX10_valueWord_X10_spells
theorem dX10_valueWord_0 : decode cX10_valueWord 0 = .ok (.aload_n 0, 1) := by decide +kernel
theorem dX10_valueWord_1 : decode cX10_valueWord 1 = .ok (.iload_n 1, 1) := by decide +kernel
theorem dX10_valueWord_2 : decode cX10_valueWord 2 = .ok (.iload_n 2, 1) := by decide +kernel
theorem dX10_valueWord_3 : decode cX10_valueWord 3 = .ok (.ldc 105, 2) := by decide +kernel
theorem dX10_valueWord_5 : decode cX10_valueWord 5 = .ok (.invokestatic 72, 3) := by decide +kernel
theorem dX10_valueWord_8 : decode cX10_valueWord 8 = .ok (.ifCond .eq 7, 3) := by decide +kernel
theorem dX10_valueWord_11 : decode cX10_valueWord 11 = .ok (.sipush 270, 3) := by decide +kernel
theorem dX10_valueWord_14 : decode cX10_valueWord 14 = .ok (.ireturn, 1) := by decide +kernel
theorem dX10_valueWord_15 : decode cX10_valueWord 15 = .ok (.aload_n 0, 1) := by decide +kernel
theorem dX10_valueWord_16 : decode cX10_valueWord 16 = .ok (.iload_n 1, 1) := by decide +kernel
theorem dX10_valueWord_17 : decode cX10_valueWord 17 = .ok (.iload_n 2, 1) := by decide +kernel
theorem dX10_valueWord_18 : decode cX10_valueWord 18 = .ok (.ldc 107, 2) := by decide +kernel
theorem dX10_valueWord_20 : decode cX10_valueWord 20 = .ok (.invokestatic 72, 3) := by decide +kernel
theorem dX10_valueWord_23 : decode cX10_valueWord 23 = .ok (.ifCond .eq 7, 3) := by decide +kernel
theorem dX10_valueWord_26 : decode cX10_valueWord 26 = .ok (.sipush 271, 3) := by decide +kernel
theorem dX10_valueWord_29 : decode cX10_valueWord 29 = .ok (.ireturn, 1) := by decide +kernel
theorem dX10_valueWord_30 : decode cX10_valueWord 30 = .ok (.aload_n 0, 1) := by decide +kernel
theorem dX10_valueWord_31 : decode cX10_valueWord 31 = .ok (.iload_n 1, 1) := by decide +kernel
theorem dX10_valueWord_32 : decode cX10_valueWord 32 = .ok (.iload_n 2, 1) := by decide +kernel
theorem dX10_valueWord_33 : decode cX10_valueWord 33 = .ok (.ldc 109, 2) := by decide +kernel
theorem dX10_valueWord_35 : decode cX10_valueWord 35 = .ok (.invokestatic 72, 3) := by decide +kernel
theorem dX10_valueWord_38 : decode cX10_valueWord 38 = .ok (.ifCond .eq 7, 3) := by decide +kernel
theorem dX10_valueWord_41 : decode cX10_valueWord 41 = .ok (.sipush 272, 3) := by decide +kernel
theorem dX10_valueWord_44 : decode cX10_valueWord 44 = .ok (.ireturn, 1) := by decide +kernel
theorem dX10_valueWord_45 : decode cX10_valueWord 45 = .ok (.aload_n 0, 1) := by decide +kernel
theorem dX10_valueWord_46 : decode cX10_valueWord 46 = .ok (.iload_n 1, 1) := by decide +kernel
theorem dX10_valueWord_47 : decode cX10_valueWord 47 = .ok (.iload_n 2, 1) := by decide +kernel
theorem dX10_valueWord_48 : decode cX10_valueWord 48 = .ok (.ldc 111, 2) := by decide +kernel
theorem dX10_valueWord_50 : decode cX10_valueWord 50 = .ok (.invokestatic 72, 3) := by decide +kernel
theorem dX10_valueWord_53 : decode cX10_valueWord 53 = .ok (.ifCond .eq 7, 3) := by decide +kernel
theorem dX10_valueWord_56 : decode cX10_valueWord 56 = .ok (.sipush 273, 3) := by decide +kernel
theorem dX10_valueWord_59 : decode cX10_valueWord 59 = .ok (.ireturn, 1) := by decide +kernel
theorem dX10_valueWord_60 : decode cX10_valueWord 60 = .ok (.aload_n 0, 1) := by decide +kernel
theorem dX10_valueWord_61 : decode cX10_valueWord 61 = .ok (.iload_n 1, 1) := by decide +kernel
theorem dX10_valueWord_62 : decode cX10_valueWord 62 = .ok (.iload_n 2, 1) := by decide +kernel
theorem dX10_valueWord_63 : decode cX10_valueWord 63 = .ok (.ldc 113, 2) := by decide +kernel
theorem dX10_valueWord_65 : decode cX10_valueWord 65 = .ok (.invokestatic 72, 3) := by decide +kernel
theorem dX10_valueWord_68 : decode cX10_valueWord 68 = .ok (.ifCond .eq 7, 3) := by decide +kernel
theorem dX10_valueWord_71 : decode cX10_valueWord 71 = .ok (.sipush 274, 3) := by decide +kernel
theorem dX10_valueWord_74 : decode cX10_valueWord 74 = .ok (.ireturn, 1) := by decide +kernel
theorem dX10_valueWord_75 : decode cX10_valueWord 75 = .ok (.aload_n 0, 1) := by decide +kernel
theorem dX10_valueWord_76 : decode cX10_valueWord 76 = .ok (.iload_n 1, 1) := by decide +kernel
theorem dX10_valueWord_77 : decode cX10_valueWord 77 = .ok (.iload_n 2, 1) := by decide +kernel
theorem dX10_valueWord_78 : decode cX10_valueWord 78 = .ok (.ldc 115, 2) := by decide +kernel
theorem dX10_valueWord_80 : decode cX10_valueWord 80 = .ok (.invokestatic 72, 3) := by decide +kernel
theorem dX10_valueWord_83 : decode cX10_valueWord 83 = .ok (.ifCond .eq 7, 3) := by decide +kernel
theorem dX10_valueWord_86 : decode cX10_valueWord 86 = .ok (.sipush 275, 3) := by decide +kernel
theorem dX10_valueWord_89 : decode cX10_valueWord 89 = .ok (.ireturn, 1) := by decide +kernel
theorem dX10_valueWord_90 : decode cX10_valueWord 90 = .ok (.aload_n 0, 1) := by decide +kernel
theorem dX10_valueWord_91 : decode cX10_valueWord 91 = .ok (.iload_n 1, 1) := by decide +kernel
theorem dX10_valueWord_92 : decode cX10_valueWord 92 = .ok (.iload_n 2, 1) := by decide +kernel
theorem dX10_valueWord_93 : decode cX10_valueWord 93 = .ok (.ldc 117, 2) := by decide +kernel
theorem dX10_valueWord_95 : decode cX10_valueWord 95 = .ok (.invokestatic 72, 3) := by decide +kernel
theorem dX10_valueWord_98 : decode cX10_valueWord 98 = .ok (.ifCond .eq 7, 3) := by decide +kernel
theorem dX10_valueWord_101 : decode cX10_valueWord 101 = .ok (.sipush 276, 3) := by decide +kernel
theorem dX10_valueWord_104 : decode cX10_valueWord 104 = .ok (.ireturn, 1) := by decide +kernel
theorem dX10_valueWord_105 : decode cX10_valueWord 105 = .ok (.aload_n 0, 1) := by decide +kernel
theorem dX10_valueWord_106 : decode cX10_valueWord 106 = .ok (.iload_n 1, 1) := by decide +kernel
theorem dX10_valueWord_107 : decode cX10_valueWord 107 = .ok (.iload_n 2, 1) := by decide +kernel
theorem dX10_valueWord_108 : decode cX10_valueWord 108 = .ok (.ldc 119, 2) := by decide +kernel
theorem dX10_valueWord_110 : decode cX10_valueWord 110 = .ok (.invokestatic 72, 3) := by decide +kernel
theorem dX10_valueWord_113 : decode cX10_valueWord 113 = .ok (.ifCond .eq 7, 3) := by decide +kernel
theorem dX10_valueWord_116 : decode cX10_valueWord 116 = .ok (.sipush 277, 3) := by decide +kernel
theorem dX10_valueWord_119 : decode cX10_valueWord 119 = .ok (.ireturn, 1) := by decide +kernel
theorem dX10_valueWord_120 : decode cX10_valueWord 120 = .ok (.aload_n 0, 1) := by decide +kernel
theorem dX10_valueWord_121 : decode cX10_valueWord 121 = .ok (.iload_n 1, 1) := by decide +kernel
theorem dX10_valueWord_122 : decode cX10_valueWord 122 = .ok (.iload_n 2, 1) := by decide +kernel
theorem dX10_valueWord_123 : decode cX10_valueWord 123 = .ok (.ldc 121, 2) := by decide +kernel
theorem dX10_valueWord_125 : decode cX10_valueWord 125 = .ok (.invokestatic 72, 3) := by decide +kernel
theorem dX10_valueWord_128 : decode cX10_valueWord 128 = .ok (.ifCond .eq 9, 3) := by decide +kernel
theorem dX10_valueWord_131 : decode cX10_valueWord 131 = .ok (.sipush 278, 3) := by decide +kernel
theorem dX10_valueWord_134 : decode cX10_valueWord 134 = .ok (.goto 4, 3) := by decide +kernel
theorem dX10_valueWord_137 : decode cX10_valueWord 137 = .ok (.iconst 1, 1) := by decide +kernel
theorem dX10_valueWord_138 : decode cX10_valueWord 138 = .ok (.ireturn, 1) := by decide +kernel
set_option maxRecDepth 20000 in
theorem ggX10_spells_J0_length_8abf5 : GoodIn wsX10_spells wsJ0_length_8abf5 := goodIn_r _ [5, 6, 7, 8, 9, 4, 10, 11, 12] rfl (by decide +kernel)
set_option maxRecDepth 20000 in
theorem gX10_spells_J0_length_8abf5 : GoodIn wsX10_spells (wsV RX10 123 RJ0 yJ0_length_8abf5 wsJ0_length_8abf5) := goodIn_app (goodIn_of _ (by decide +kernel)) ggX10_spells_J0_length_8abf5
set_option maxRecDepth 20000 in
theorem ggX10_spells_J0_charAt_5068e : GoodIn wsX10_spells wsJ0_charAt_5068e := goodIn_r _ [16, 6, 17, 18, 19, 4, 20, 11, 12, 21, 22, 23, 24, 25, 26, 27, 28, 29, 30, 31, 32, 33, 34, 35, 36, 37, 38, 39, 40, 41, 42, 43, 44, 45, 46, 47, 48, 49] rfl (by decide +kernel)
set_option maxRecDepth 20000 in
theorem gX10_spells_J0_charAt_5068e : GoodIn wsX10_spells (wsV RX10 129 RJ0 yJ0_charAt_5068e wsJ0_charAt_5068e) := goodIn_app (goodIn_of _ (by decide +kernel)) ggX10_spells_J0_charAt_5068e
theorem dX10_spells_0 : decode cX10_spells 0 = .ok (.iload_n 2, 1) := by decide +kernel
theorem dX10_spells_1 : decode cX10_spells 1 = .ok (.iload_n 1, 1) := by decide +kernel
theorem dX10_spells_2 : decode cX10_spells 2 = .ok (.isub, 1) := by decide +kernel
theorem dX10_spells_3 : decode cX10_spells 3 = .ok (.aload_n 3, 1) := by decide +kernel
theorem dX10_spells_4 : decode cX10_spells 4 = .ok (.invokevirtual 123, 3) := by decide +kernel
theorem dX10_spells_7 : decode cX10_spells 7 = .ok (.if_icmp .ne 13, 3) := by decide +kernel
theorem dX10_spells_10 : decode cX10_spells 10 = .ok (.iload_n 1, 1) := by decide +kernel
theorem dX10_spells_11 : decode cX10_spells 11 = .ok (.ifCond .lt 9, 3) := by decide +kernel
theorem dX10_spells_14 : decode cX10_spells 14 = .ok (.iload_n 2, 1) := by decide +kernel
theorem dX10_spells_15 : decode cX10_spells 15 = .ok (.aload_n 0, 1) := by decide +kernel
theorem dX10_spells_16 : decode cX10_spells 16 = .ok (.arraylength, 1) := by decide +kernel
theorem dX10_spells_17 : decode cX10_spells 17 = .ok (.if_icmp .le 5, 3) := by decide +kernel
theorem dX10_spells_20 : decode cX10_spells 20 = .ok (.iconst 0, 1) := by decide +kernel
theorem dX10_spells_21 : decode cX10_spells 21 = .ok (.ireturn, 1) := by decide +kernel
theorem dX10_spells_22 : decode cX10_spells 22 = .ok (.iload_n 1, 1) := by decide +kernel
theorem dX10_spells_23 : decode cX10_spells 23 = .ok (.istore 4, 2) := by decide +kernel
theorem dX10_spells_25 : decode cX10_spells 25 = .ok (.iload 4, 2) := by decide +kernel
theorem dX10_spells_27 : decode cX10_spells 27 = .ok (.iload_n 2, 1) := by decide +kernel
theorem dX10_spells_28 : decode cX10_spells 28 = .ok (.if_icmp .ge 26, 3) := by decide +kernel
theorem dX10_spells_31 : decode cX10_spells 31 = .ok (.aload_n 0, 1) := by decide +kernel
theorem dX10_spells_32 : decode cX10_spells 32 = .ok (.iload 4, 2) := by decide +kernel
theorem dX10_spells_34 : decode cX10_spells 34 = .ok (.baload, 1) := by decide +kernel
theorem dX10_spells_35 : decode cX10_spells 35 = .ok (.aload_n 3, 1) := by decide +kernel
theorem dX10_spells_36 : decode cX10_spells 36 = .ok (.iload 4, 2) := by decide +kernel
theorem dX10_spells_38 : decode cX10_spells 38 = .ok (.iload_n 1, 1) := by decide +kernel
theorem dX10_spells_39 : decode cX10_spells 39 = .ok (.isub, 1) := by decide +kernel
theorem dX10_spells_40 : decode cX10_spells 40 = .ok (.invokevirtual 129, 3) := by decide +kernel
theorem dX10_spells_43 : decode cX10_spells 43 = .ok (.if_icmp .eq 5, 3) := by decide +kernel
theorem dX10_spells_46 : decode cX10_spells 46 = .ok (.iconst 0, 1) := by decide +kernel
theorem dX10_spells_47 : decode cX10_spells 47 = .ok (.ireturn, 1) := by decide +kernel
theorem dX10_spells_48 : decode cX10_spells 48 = .ok (.iinc 4 1, 3) := by decide +kernel
theorem dX10_spells_51 : decode cX10_spells 51 = .ok (.goto (-26), 3) := by decide +kernel
theorem dX10_spells_54 : decode cX10_spells 54 = .ok (.iconst 1, 1) := by decide +kernel
theorem dX10_spells_55 : decode cX10_spells 55 = .ok (.ireturn, 1) := by decide +kernel
set_option maxRecDepth 20000 in
theorem ggX11_init_X8_init : GoodIn wsX11_init wsX8_init := goodIn_r _ [31, 32, 2, 3, 33, 34, 35, 36, 37, 38, 39, 40, 41, 42, 43, 44, 45, 46, 47, 48, 49, 50, 51, 52, 53, 54, 55, 56, 57, 58, 59, 60, 61, 62, 63, 64, 172, 173, 174, 175, 176, 140, 141, 142, 143, 144, 177, 178, 179, 180, 181, 182, 183, 184, 185] rfl (by decide +kernel)
set_option maxRecDepth 20000 in
theorem gX11_init_X8_init : GoodIn wsX11_init (wsX8_init) := ggX11_init_X8_init
set_option maxRecDepth 20000 in
theorem ggX11_init_X10_init : GoodIn wsX11_init wsX10_init := goodIn_r _ [67, 68, 2, 3, 37, 69, 70, 71, 145, 146, 147, 148, 149, 150] rfl (by decide +kernel)
set_option maxRecDepth 20000 in
theorem gX11_init_X10_init : GoodIn wsX11_init (wsX10_init) := ggX11_init_X10_init
set_option maxRecDepth 20000 in
theorem ggX11_init_X5_init : GoodIn wsX11_init wsX5_init := goodIn_r _ [74, 75, 2, 3, 76, 151, 152, 153] rfl (by decide +kernel)
set_option maxRecDepth 20000 in
theorem gX11_init_X5_init : GoodIn wsX11_init (wsX5_init) := ggX11_init_X5_init
set_option maxRecDepth 20000 in
theorem ggX11_init_X7_init : GoodIn wsX11_init wsX7_init := goodIn_r _ [79, 80, 2, 3, 37, 81, 82, 83, 84, 85, 154, 155, 156, 157, 158, 159, 160] rfl (by decide +kernel)
set_option maxRecDepth 20000 in
theorem gX11_init_X7_init : GoodIn wsX11_init (wsX7_init) := ggX11_init_X7_init
set_option maxRecDepth 20000 in
theorem ggX11_init_X0_init : GoodIn wsX11_init wsX0_init := goodIn_r _ [88, 89, 2, 3, 90, 91, 92, 93, 94, 95, 37, 96, 34, 35, 97, 98, 99, 100, 101, 102, 103, 104, 105, 106, 107, 108, 109, 110, 111, 112, 42, 43, 44, 45, 46, 47, 48, 49, 50, 51, 52, 53, 54, 55, 56, 57, 58, 59, 60, 113, 114, 115, 116, 117, 118, 119, 120, 121, 122, 123, 124, 125, 126, 127, 128, 129, 186, 187, 161, 162, 163, 164, 165, 166, 167, 168, 169, 170, 171, 172, 173, 174, 175, 176, 188, 189, 190, 191, 192, 193, 194, 195, 196, 197, 198, 199, 200, 201, 202, 203, 204, 205, 206, 207, 208, 209, 210, 177, 178, 179, 180, 181, 182, 183, 184, 185] rfl (by decide +kernel)
set_option maxRecDepth 20000 in
theorem gX11_init_X0_init : GoodIn wsX11_init (wsX0_init) := ggX11_init_X0_init
theorem dX11_init_0 : decode cX11_init 0 = .ok (.aload_n 0, 1) := by decide +kernel
theorem dX11_init_1 : decode cX11_init 1 = .ok (.invokespecial 1, 3) := by decide +kernel
theorem dX11_init_4 : decode cX11_init 4 = .ok (.aload_n 0, 1) := by decide +kernel
theorem dX11_init_5 : decode cX11_init 5 = .ok (.sipush 400, 3) := by decide +kernel
theorem dX11_init_8 : decode cX11_init 8 = .ok (.newarray .byte, 2) := by decide +kernel
theorem dX11_init_10 : decode cX11_init 10 = .ok (.putfield 9, 3) := by decide +kernel
theorem dX11_init_13 : decode cX11_init 13 = .ok (.aload_n 0, 1) := by decide +kernel
theorem dX11_init_14 : decode cX11_init 14 = .ok (.bipush 6, 2) := by decide +kernel
theorem dX11_init_16 : decode cX11_init 16 = .ok (.anewarray 13, 3) := by decide +kernel
theorem dX11_init_19 : decode cX11_init 19 = .ok (.putfield 15, 3) := by decide +kernel
theorem dX11_init_22 : decode cX11_init 22 = .ok (.aload_n 0, 1) := by decide +kernel
theorem dX11_init_23 : decode cX11_init 23 = .ok (.new 19, 3) := by decide +kernel
theorem dX11_init_26 : decode cX11_init 26 = .ok (.dup, 1) := by decide +kernel
theorem dX11_init_27 : decode cX11_init 27 = .ok (.invokespecial 21, 3) := by decide +kernel
theorem dX11_init_30 : decode cX11_init 30 = .ok (.putfield 22, 3) := by decide +kernel
theorem dX11_init_33 : decode cX11_init 33 = .ok (.aload_n 0, 1) := by decide +kernel
theorem dX11_init_34 : decode cX11_init 34 = .ok (.iconst 4, 1) := by decide +kernel
theorem dX11_init_35 : decode cX11_init 35 = .ok (.anewarray 19, 3) := by decide +kernel
theorem dX11_init_38 : decode cX11_init 38 = .ok (.putfield 26, 3) := by decide +kernel
theorem dX11_init_41 : decode cX11_init 41 = .ok (.aload_n 0, 1) := by decide +kernel
theorem dX11_init_42 : decode cX11_init 42 = .ok (.new 30, 3) := by decide +kernel
theorem dX11_init_45 : decode cX11_init 45 = .ok (.dup, 1) := by decide +kernel
theorem dX11_init_46 : decode cX11_init 46 = .ok (.invokespecial 32, 3) := by decide +kernel
theorem dX11_init_49 : decode cX11_init 49 = .ok (.putfield 33, 3) := by decide +kernel
theorem dX11_init_52 : decode cX11_init 52 = .ok (.aload_n 0, 1) := by decide +kernel
theorem dX11_init_53 : decode cX11_init 53 = .ok (.new 37, 3) := by decide +kernel
theorem dX11_init_56 : decode cX11_init 56 = .ok (.dup, 1) := by decide +kernel
theorem dX11_init_57 : decode cX11_init 57 = .ok (.aload_n 0, 1) := by decide +kernel
theorem dX11_init_58 : decode cX11_init 58 = .ok (.getfield 33, 3) := by decide +kernel
theorem dX11_init_61 : decode cX11_init 61 = .ok (.invokespecial 39, 3) := by decide +kernel
theorem dX11_init_64 : decode cX11_init 64 = .ok (.putfield 42, 3) := by decide +kernel
theorem dX11_init_67 : decode cX11_init 67 = .ok (.aload_n 0, 1) := by decide +kernel
theorem dX11_init_68 : decode cX11_init 68 = .ok (.new 46, 3) := by decide +kernel
theorem dX11_init_71 : decode cX11_init 71 = .ok (.dup, 1) := by decide +kernel
theorem dX11_init_72 : decode cX11_init 72 = .ok (.aload_n 0, 1) := by decide +kernel
theorem dX11_init_73 : decode cX11_init 73 = .ok (.getfield 33, 3) := by decide +kernel
theorem dX11_init_76 : decode cX11_init 76 = .ok (.invokespecial 48, 3) := by decide +kernel
theorem dX11_init_79 : decode cX11_init 79 = .ok (.putfield 49, 3) := by decide +kernel
theorem dX11_init_82 : decode cX11_init 82 = .ok (.aload_n 0, 1) := by decide +kernel
theorem dX11_init_83 : decode cX11_init 83 = .ok (.new 53, 3) := by decide +kernel
theorem dX11_init_86 : decode cX11_init 86 = .ok (.dup, 1) := by decide +kernel
theorem dX11_init_87 : decode cX11_init 87 = .ok (.invokespecial 55, 3) := by decide +kernel
theorem dX11_init_90 : decode cX11_init 90 = .ok (.putfield 56, 3) := by decide +kernel
theorem dX11_init_93 : decode cX11_init 93 = .ok (.return_, 1) := by decide +kernel
set_option maxRecDepth 20000 in
theorem ggX11_feed_X11_putOnTape : GoodIn wsX11_feed wsX11_putOnTape := goodIn_r _ [6, 1, 7, 8, 9, 10, 11, 12, 13, 14, 15, 16, 17] rfl (by decide +kernel)
set_option maxRecDepth 20000 in
theorem gX11_feed_X11_putOnTape : GoodIn wsX11_feed (wsV RX11 64 RX11 yX11_putOnTape wsX11_putOnTape) := goodIn_app (goodIn_of _ (by decide +kernel)) ggX11_feed_X11_putOnTape
theorem dX11_feed_0 : decode cX11_feed 0 = .ok (.aload_n 0, 1) := by decide +kernel
theorem dX11_feed_1 : decode cX11_feed 1 = .ok (.getfield 60, 3) := by decide +kernel
theorem dX11_feed_4 : decode cX11_feed 4 = .ok (.bipush 20, 2) := by decide +kernel
theorem dX11_feed_6 : decode cX11_feed 6 = .ok (.iadd, 1) := by decide +kernel
theorem dX11_feed_7 : decode cX11_feed 7 = .ok (.sipush 400, 3) := by decide +kernel
theorem dX11_feed_10 : decode cX11_feed 10 = .ok (.if_icmp .le 5, 3) := by decide +kernel
theorem dX11_feed_13 : decode cX11_feed 13 = .ok (.iconst (-1), 1) := by decide +kernel
theorem dX11_feed_14 : decode cX11_feed 14 = .ok (.ireturn, 1) := by decide +kernel
theorem dX11_feed_15 : decode cX11_feed 15 = .ok (.aload_n 0, 1) := by decide +kernel
theorem dX11_feed_16 : decode cX11_feed 16 = .ok (.iload_n 1, 1) := by decide +kernel
theorem dX11_feed_17 : decode cX11_feed 17 = .ok (.invokevirtual 64, 3) := by decide +kernel
theorem dX11_feed_20 : decode cX11_feed 20 = .ok (.aload_n 0, 1) := by decide +kernel
theorem dX11_feed_21 : decode cX11_feed 21 = .ok (.iload_n 2, 1) := by decide +kernel
theorem dX11_feed_22 : decode cX11_feed 22 = .ok (.invokevirtual 64, 3) := by decide +kernel
theorem dX11_feed_25 : decode cX11_feed 25 = .ok (.aload_n 0, 1) := by decide +kernel
theorem dX11_feed_26 : decode cX11_feed 26 = .ok (.iload_n 3, 1) := by decide +kernel
theorem dX11_feed_27 : decode cX11_feed 27 = .ok (.invokevirtual 64, 3) := by decide +kernel
theorem dX11_feed_30 : decode cX11_feed 30 = .ok (.aload_n 0, 1) := by decide +kernel
theorem dX11_feed_31 : decode cX11_feed 31 = .ok (.iload 4, 2) := by decide +kernel
theorem dX11_feed_33 : decode cX11_feed 33 = .ok (.invokevirtual 64, 3) := by decide +kernel
theorem dX11_feed_36 : decode cX11_feed 36 = .ok (.aload_n 0, 1) := by decide +kernel
theorem dX11_feed_37 : decode cX11_feed 37 = .ok (.iload 5, 2) := by decide +kernel
theorem dX11_feed_39 : decode cX11_feed 39 = .ok (.invokevirtual 64, 3) := by decide +kernel
theorem dX11_feed_42 : decode cX11_feed 42 = .ok (.aload_n 0, 1) := by decide +kernel
theorem dX11_feed_43 : decode cX11_feed 43 = .ok (.getfield 60, 3) := by decide +kernel
theorem dX11_feed_46 : decode cX11_feed 46 = .ok (.ireturn, 1) := by decide +kernel
theorem dX11_end_0 : decode cX11_end 0 = .ok (.iload_n 1, 1) := by decide +kernel
theorem dX11_end_1 : decode cX11_end 1 = .ok (.ifCond .lt 11, 3) := by decide +kernel
theorem dX11_end_4 : decode cX11_end 4 = .ok (.iload_n 1, 1) := by decide +kernel
theorem dX11_end_5 : decode cX11_end 5 = .ok (.aload_n 0, 1) := by decide +kernel
theorem dX11_end_6 : decode cX11_end 6 = .ok (.getfield 60, 3) := by decide +kernel
theorem dX11_end_9 : decode cX11_end 9 = .ok (.if_icmp .le 5, 3) := by decide +kernel
theorem dX11_end_12 : decode cX11_end 12 = .ok (.iconst (-1), 1) := by decide +kernel
theorem dX11_end_13 : decode cX11_end 13 = .ok (.ireturn, 1) := by decide +kernel
theorem dX11_end_14 : decode cX11_end 14 = .ok (.aload_n 0, 1) := by decide +kernel
theorem dX11_end_15 : decode cX11_end 15 = .ok (.iload_n 1, 1) := by decide +kernel
theorem dX11_end_16 : decode cX11_end 16 = .ok (.putfield 60, 3) := by decide +kernel
theorem dX11_end_19 : decode cX11_end 19 = .ok (.iload_n 1, 1) := by decide +kernel
theorem dX11_end_20 : decode cX11_end 20 = .ok (.ireturn, 1) := by decide +kernel
set_option maxRecDepth 20000 in
theorem ggX11_river_X11_scanTape : GoodIn wsX11_river wsX11_scanTape := goodIn_r _ [10, 2, 11, 12, 13, 14, 15, 16, 17, 18, 19, 20, 21, 22, 23, 24, 25, 26, 27, 28, 29, 30, 31, 32, 33, 34, 35, 36, 37, 38, 39, 40, 41, 42, 43, 44, 45, 46, 47, 48, 49, 50, 51, 52, 53, 54, 55, 56, 57, 58, 59, 60, 61, 62, 63, 64, 65, 66, 67, 68, 69, 70, 71, 72, 73, 74, 75, 76, 77, 78, 79, 80, 81, 82, 83, 84, 85, 86, 87, 88, 89, 90, 91, 92, 93, 94, 95, 96, 97, 98, 99, 100, 101, 102, 103, 104, 105, 106, 107, 108, 109, 110, 111, 112, 113, 212, 213, 214, 215, 216, 217, 218, 219, 220, 221, 222, 223, 224, 225, 226, 227] rfl (by decide +kernel)
set_option maxRecDepth 20000 in
theorem gX11_river_X11_scanTape : GoodIn wsX11_river (wsV RX11 68 RX11 yX11_scanTape wsX11_scanTape) := goodIn_app (goodIn_of _ (by decide +kernel)) ggX11_river_X11_scanTape
set_option maxRecDepth 20000 in
theorem ggX11_river_X5_read : GoodIn wsX11_river wsX5_read := goodIn_r _ [118, 119, 120, 121, 122, 123, 124, 125, 126, 127, 128, 129, 130, 131, 132, 133, 134, 135, 136, 137, 138, 139, 117, 140, 141, 142, 143, 144, 145, 146, 16, 147, 20, 19, 18, 111, 148, 149, 150, 151, 112, 152, 153, 154, 155, 156, 157, 158, 159, 160, 161, 162, 163, 164, 165, 166, 167, 168, 113, 169, 170, 171, 172, 173, 174, 175, 176, 177, 178, 179, 180, 181, 182, 183, 184, 185, 237, 238, 239, 228, 229, 230, 231, 232, 233, 234, 235, 236, 222, 223, 224, 225, 226, 227] rfl (by decide +kernel)
set_option maxRecDepth 20000 in
theorem gX11_river_X5_read : GoodIn wsX11_river (wsV RX11 71 RX5 yX5_read wsX5_read) := goodIn_app (goodIn_of _ (by decide +kernel)) ggX11_river_X5_read
set_option maxRecDepth 20000 in
theorem ggX11_river_X8_beginAt : GoodIn wsX11_river wsX8_beginAt := goodIn_r _ [190, 191, 192, 193, 194, 195, 196, 197, 198, 199, 200, 201, 202, 203, 204, 205, 206, 207, 189, 208, 209, 210, 211, 240, 241, 242, 243, 244, 245, 246, 247, 248, 249] rfl (by decide +kernel)
set_option maxRecDepth 20000 in
theorem gX11_river_X8_beginAt : GoodIn wsX11_river (wsV RX11 78 RX8 yX8_beginAt wsX8_beginAt) := goodIn_app (goodIn_of _ (by decide +kernel)) ggX11_river_X8_beginAt
theorem dX11_river_0 : decode cX11_river 0 = .ok (.aload_n 0, 1) := by decide +kernel
theorem dX11_river_1 : decode cX11_river 1 = .ok (.invokevirtual 68, 3) := by decide +kernel
theorem dX11_river_4 : decode cX11_river 4 = .ok (.aload_n 0, 1) := by decide +kernel
theorem dX11_river_5 : decode cX11_river 5 = .ok (.getfield 42, 3) := by decide +kernel
theorem dX11_river_8 : decode cX11_river 8 = .ok (.invokevirtual 71, 3) := by decide +kernel
theorem dX11_river_11 : decode cX11_river 11 = .ok (.astore_n 1, 1) := by decide +kernel
theorem dX11_river_12 : decode cX11_river 12 = .ok (.aload_n 1, 1) := by decide +kernel
theorem dX11_river_13 : decode cX11_river 13 = .ok (.ifnonnull 14, 3) := by decide +kernel
theorem dX11_river_16 : decode cX11_river 16 = .ok (.bipush (-2), 2) := by decide +kernel
theorem dX11_river_18 : decode cX11_river 18 = .ok (.aload_n 0, 1) := by decide +kernel
theorem dX11_river_19 : decode cX11_river 19 = .ok (.getfield 33, 3) := by decide +kernel
theorem dX11_river_22 : decode cX11_river 22 = .ok (.getfield 75, 3) := by decide +kernel
theorem dX11_river_25 : decode cX11_river 25 = .ok (.isub, 1) := by decide +kernel
theorem dX11_river_26 : decode cX11_river 26 = .ok (.ireturn, 1) := by decide +kernel
theorem dX11_river_27 : decode cX11_river 27 = .ok (.aload_n 0, 1) := by decide +kernel
theorem dX11_river_28 : decode cX11_river 28 = .ok (.getfield 22, 3) := by decide +kernel
theorem dX11_river_31 : decode cX11_river 31 = .ok (.aload_n 1, 1) := by decide +kernel
theorem dX11_river_32 : decode cX11_river 32 = .ok (.invokevirtual 78, 3) := by decide +kernel
theorem dX11_river_35 : decode cX11_river 35 = .ok (.aload_n 1, 1) := by decide +kernel
theorem dX11_river_36 : decode cX11_river 36 = .ok (.getfield 82, 3) := by decide +kernel
theorem dX11_river_39 : decode cX11_river 39 = .ok (.ireturn, 1) := by decide +kernel
set_option maxRecDepth 20000 in
theorem ggX11_rule_X11_scanTape : GoodIn wsX11_rule wsX11_scanTape := goodIn_r _ [10, 3, 11, 12, 13, 14, 15, 16, 17, 18, 19, 20, 21, 22, 23, 24, 25, 26, 27, 28, 29, 30, 31, 32, 33, 34, 35, 36, 37, 38, 39, 40, 41, 42, 43, 44, 45, 46, 47, 48, 49, 50, 51, 52, 53, 54, 55, 56, 57, 58, 59, 60, 61, 62, 63, 64, 65, 66, 67, 68, 69, 70, 71, 72, 73, 74, 75, 76, 77, 78, 79, 80, 81, 82, 83, 84, 85, 86, 87, 88, 89, 90, 91, 92, 93, 94, 95, 96, 97, 98, 99, 100, 101, 102, 103, 104, 105, 106, 107, 108, 109, 110, 111, 112, 113, 204, 205, 206, 207, 208, 209, 210, 211, 212, 213, 214, 215, 216, 217, 218, 219] rfl (by decide +kernel)
set_option maxRecDepth 20000 in
theorem gX11_rule_X11_scanTape : GoodIn wsX11_rule (wsV RX11 68 RX11 yX11_scanTape wsX11_scanTape) := goodIn_app (goodIn_of _ (by decide +kernel)) ggX11_rule_X11_scanTape
set_option maxRecDepth 20000 in
theorem ggX11_rule_X7_read : GoodIn wsX11_rule wsX7_read := goodIn_r _ [118, 119, 120, 121, 122, 123, 124, 125, 126, 127, 128, 129, 130, 131, 117, 132, 133, 134, 135, 16, 136, 20, 19, 18, 111, 137, 138, 139, 140, 112, 141, 142, 143, 144, 145, 146, 147, 148, 149, 150, 151, 152, 153, 154, 155, 156, 113, 157, 158, 159, 160, 161, 162, 163, 164, 165, 166, 167, 168, 169, 170, 171, 172, 173, 174, 175, 176, 177, 178, 179, 180, 181, 182, 183, 184, 185, 186, 187, 188, 22, 23, 24, 189, 190, 191, 192, 193, 194, 195, 196, 197, 198, 199, 200, 201, 202, 203, 220, 221, 222, 223, 224, 225, 226, 227, 228, 229, 230, 231, 214, 215, 216, 217, 218, 219] rfl (by decide +kernel)
set_option maxRecDepth 20000 in
theorem gX11_rule_X7_read : GoodIn wsX11_rule (wsV RX11 90 RX7 yX7_read wsX7_read) := goodIn_app (goodIn_of _ (by decide +kernel)) ggX11_rule_X7_read
theorem dX11_rule_0 : decode cX11_rule 0 = .ok (.aload_n 0, 1) := by decide +kernel
theorem dX11_rule_1 : decode cX11_rule 1 = .ok (.getfield 87, 3) := by decide +kernel
theorem dX11_rule_4 : decode cX11_rule 4 = .ok (.bipush 6, 2) := by decide +kernel
theorem dX11_rule_6 : decode cX11_rule 6 = .ok (.if_icmp .lt 5, 3) := by decide +kernel
theorem dX11_rule_9 : decode cX11_rule 9 = .ok (.iconst (-1), 1) := by decide +kernel
theorem dX11_rule_10 : decode cX11_rule 10 = .ok (.ireturn, 1) := by decide +kernel
theorem dX11_rule_11 : decode cX11_rule 11 = .ok (.aload_n 0, 1) := by decide +kernel
theorem dX11_rule_12 : decode cX11_rule 12 = .ok (.invokevirtual 68, 3) := by decide +kernel
theorem dX11_rule_15 : decode cX11_rule 15 = .ok (.aload_n 0, 1) := by decide +kernel
theorem dX11_rule_16 : decode cX11_rule 16 = .ok (.getfield 49, 3) := by decide +kernel
theorem dX11_rule_19 : decode cX11_rule 19 = .ok (.invokevirtual 90, 3) := by decide +kernel
theorem dX11_rule_22 : decode cX11_rule 22 = .ok (.astore_n 1, 1) := by decide +kernel
theorem dX11_rule_23 : decode cX11_rule 23 = .ok (.aload_n 1, 1) := by decide +kernel
theorem dX11_rule_24 : decode cX11_rule 24 = .ok (.ifnonnull 14, 3) := by decide +kernel
theorem dX11_rule_27 : decode cX11_rule 27 = .ok (.bipush (-2), 2) := by decide +kernel
theorem dX11_rule_29 : decode cX11_rule 29 = .ok (.aload_n 0, 1) := by decide +kernel
theorem dX11_rule_30 : decode cX11_rule 30 = .ok (.getfield 33, 3) := by decide +kernel
theorem dX11_rule_33 : decode cX11_rule 33 = .ok (.getfield 75, 3) := by decide +kernel
theorem dX11_rule_36 : decode cX11_rule 36 = .ok (.isub, 1) := by decide +kernel
theorem dX11_rule_37 : decode cX11_rule 37 = .ok (.ireturn, 1) := by decide +kernel
theorem dX11_rule_38 : decode cX11_rule 38 = .ok (.aload_n 0, 1) := by decide +kernel
theorem dX11_rule_39 : decode cX11_rule 39 = .ok (.getfield 15, 3) := by decide +kernel
theorem dX11_rule_42 : decode cX11_rule 42 = .ok (.aload_n 0, 1) := by decide +kernel
theorem dX11_rule_43 : decode cX11_rule 43 = .ok (.getfield 87, 3) := by decide +kernel
theorem dX11_rule_46 : decode cX11_rule 46 = .ok (.aload_n 1, 1) := by decide +kernel
theorem dX11_rule_47 : decode cX11_rule 47 = .ok (.aastore, 1) := by decide +kernel
theorem dX11_rule_48 : decode cX11_rule 48 = .ok (.aload_n 0, 1) := by decide +kernel
theorem dX11_rule_49 : decode cX11_rule 49 = .ok (.dup, 1) := by decide +kernel
theorem dX11_rule_50 : decode cX11_rule 50 = .ok (.getfield 87, 3) := by decide +kernel
theorem dX11_rule_53 : decode cX11_rule 53 = .ok (.iconst 1, 1) := by decide +kernel
theorem dX11_rule_54 : decode cX11_rule 54 = .ok (.iadd, 1) := by decide +kernel
theorem dX11_rule_55 : decode cX11_rule 55 = .ok (.putfield 87, 3) := by decide +kernel
theorem dX11_rule_58 : decode cX11_rule 58 = .ok (.aload_n 0, 1) := by decide +kernel
theorem dX11_rule_59 : decode cX11_rule 59 = .ok (.getfield 87, 3) := by decide +kernel
theorem dX11_rule_62 : decode cX11_rule 62 = .ok (.iconst 1, 1) := by decide +kernel
theorem dX11_rule_63 : decode cX11_rule 63 = .ok (.isub, 1) := by decide +kernel
theorem dX11_rule_64 : decode cX11_rule 64 = .ok (.ireturn, 1) := by decide +kernel
set_option maxRecDepth 20000 in
theorem ggX11_yard_X11_isSide : GoodIn wsX11_yard wsX11_isSide := goodIn_r _ [7] rfl (by decide +kernel)
set_option maxRecDepth 20000 in
theorem gX11_yard_X11_isSide : GoodIn wsX11_yard (va_wsS RX11 97 yX11_isSide wsX11_isSide) := goodIn_app (goodIn_of _ (by decide +kernel)) ggX11_yard_X11_isSide
set_option maxRecDepth 20000 in
theorem ggX11_yard_X9_yardsOf : GoodIn wsX11_yard wsX9_yardsOf := goodIn_r _ [12, 13, 42, 43, 44, 45, 46] rfl (by decide +kernel)
set_option maxRecDepth 20000 in
theorem gX11_yard_X9_yardsOf : GoodIn wsX11_yard (wsV RX11 101 RX9 yX9_yardsOf wsX9_yardsOf) := goodIn_app (goodIn_of _ (by decide +kernel)) ggX11_yard_X9_yardsOf
set_option maxRecDepth 20000 in
theorem ggX11_yard_X9_lineAt : GoodIn wsX11_yard wsX9_lineAt := goodIn_r _ [17, 13, 18, 19, 20, 42, 43, 44, 45, 46, 47, 48, 49, 50, 51, 52, 53, 54, 55] rfl (by decide +kernel)
set_option maxRecDepth 20000 in
theorem gX11_yard_X9_lineAt : GoodIn wsX11_yard (wsV RX11 108 RX9 yX9_lineAt wsX9_lineAt) := goodIn_app (goodIn_of _ (by decide +kernel)) ggX11_yard_X9_lineAt
set_option maxRecDepth 20000 in
theorem ggX11_yard_X9_heightAt : GoodIn wsX11_yard wsX9_heightAt := goodIn_r _ [24, 13, 18, 25, 26, 42, 43, 44, 45, 46, 47, 48, 49, 50, 51, 52, 53, 54, 55] rfl (by decide +kernel)
set_option maxRecDepth 20000 in
theorem gX11_yard_X9_heightAt : GoodIn wsX11_yard (wsV RX11 112 RX9 yX9_heightAt wsX9_heightAt) := goodIn_app (goodIn_of _ (by decide +kernel)) ggX11_yard_X9_heightAt
theorem dX11_yard_0 : decode cX11_yard 0 = .ok (.aload_n 0, 1) := by decide +kernel
theorem dX11_yard_1 : decode cX11_yard 1 = .ok (.getfield 22, 3) := by decide +kernel
theorem dX11_yard_4 : decode cX11_yard 4 = .ok (.getfield 93, 3) := by decide +kernel
theorem dX11_yard_7 : decode cX11_yard 7 = .ok (.astore 4, 2) := by decide +kernel
theorem dX11_yard_9 : decode cX11_yard 9 = .ok (.iload_n 1, 1) := by decide +kernel
theorem dX11_yard_10 : decode cX11_yard 10 = .ok (.invokestatic 97, 3) := by decide +kernel
theorem dX11_yard_13 : decode cX11_yard 13 = .ok (.ifCond .eq 17, 3) := by decide +kernel
theorem dX11_yard_16 : decode cX11_yard 16 = .ok (.iload_n 2, 1) := by decide +kernel
theorem dX11_yard_17 : decode cX11_yard 17 = .ok (.ifCond .lt 13, 3) := by decide +kernel
theorem dX11_yard_20 : decode cX11_yard 20 = .ok (.iload_n 2, 1) := by decide +kernel
theorem dX11_yard_21 : decode cX11_yard 21 = .ok (.aload 4, 2) := by decide +kernel
theorem dX11_yard_23 : decode cX11_yard 23 = .ok (.iload_n 1, 1) := by decide +kernel
theorem dX11_yard_24 : decode cX11_yard 24 = .ok (.invokevirtual 101, 3) := by decide +kernel
theorem dX11_yard_27 : decode cX11_yard 27 = .ok (.if_icmp .lt 6, 3) := by decide +kernel
theorem dX11_yard_30 : decode cX11_yard 30 = .ok (.ldc 107, 2) := by decide +kernel
theorem dX11_yard_32 : decode cX11_yard 32 = .ok (.ireturn, 1) := by decide +kernel
theorem dX11_yard_33 : decode cX11_yard 33 = .ok (.iload_n 3, 1) := by decide +kernel
theorem dX11_yard_34 : decode cX11_yard 34 = .ok (.tableswitch 82 0 3 #[30, 38, 46, 64], 30) := by decide +kernel
theorem dX11_yard_64 : decode cX11_yard 64 = .ok (.aload 4, 2) := by decide +kernel
theorem dX11_yard_66 : decode cX11_yard 66 = .ok (.iload_n 1, 1) := by decide +kernel
theorem dX11_yard_67 : decode cX11_yard 67 = .ok (.iload_n 2, 1) := by decide +kernel
theorem dX11_yard_68 : decode cX11_yard 68 = .ok (.invokevirtual 108, 3) := by decide +kernel
theorem dX11_yard_71 : decode cX11_yard 71 = .ok (.ireturn, 1) := by decide +kernel
theorem dX11_yard_72 : decode cX11_yard 72 = .ok (.aload 4, 2) := by decide +kernel
theorem dX11_yard_74 : decode cX11_yard 74 = .ok (.iload_n 1, 1) := by decide +kernel
theorem dX11_yard_75 : decode cX11_yard 75 = .ok (.iload_n 2, 1) := by decide +kernel
theorem dX11_yard_76 : decode cX11_yard 76 = .ok (.invokevirtual 112, 3) := by decide +kernel
theorem dX11_yard_79 : decode cX11_yard 79 = .ok (.ireturn, 1) := by decide +kernel
theorem dX11_yard_80 : decode cX11_yard 80 = .ok (.aload 4, 2) := by decide +kernel
theorem dX11_yard_82 : decode cX11_yard 82 = .ok (.iload_n 1, 1) := by decide +kernel
theorem dX11_yard_83 : decode cX11_yard 83 = .ok (.iload_n 2, 1) := by decide +kernel
theorem dX11_yard_84 : decode cX11_yard 84 = .ok (.invokevirtual 108, 3) := by decide +kernel
theorem dX11_yard_87 : decode cX11_yard 87 = .ok (.aload 4, 2) := by decide +kernel
theorem dX11_yard_89 : decode cX11_yard 89 = .ok (.iload_n 1, 1) := by decide +kernel
theorem dX11_yard_90 : decode cX11_yard 90 = .ok (.iload_n 2, 1) := by decide +kernel
theorem dX11_yard_91 : decode cX11_yard 91 = .ok (.iconst 1, 1) := by decide +kernel
theorem dX11_yard_92 : decode cX11_yard 92 = .ok (.isub, 1) := by decide +kernel
theorem dX11_yard_93 : decode cX11_yard 93 = .ok (.invokevirtual 108, 3) := by decide +kernel
theorem dX11_yard_96 : decode cX11_yard 96 = .ok (.isub, 1) := by decide +kernel
theorem dX11_yard_97 : decode cX11_yard 97 = .ok (.ireturn, 1) := by decide +kernel
theorem dX11_yard_98 : decode cX11_yard 98 = .ok (.aload 4, 2) := by decide +kernel
theorem dX11_yard_100 : decode cX11_yard 100 = .ok (.iload_n 1, 1) := by decide +kernel
theorem dX11_yard_101 : decode cX11_yard 101 = .ok (.iload_n 2, 1) := by decide +kernel
theorem dX11_yard_102 : decode cX11_yard 102 = .ok (.invokevirtual 112, 3) := by decide +kernel
theorem dX11_yard_105 : decode cX11_yard 105 = .ok (.aload 4, 2) := by decide +kernel
theorem dX11_yard_107 : decode cX11_yard 107 = .ok (.iload_n 1, 1) := by decide +kernel
theorem dX11_yard_108 : decode cX11_yard 108 = .ok (.iload_n 2, 1) := by decide +kernel
theorem dX11_yard_109 : decode cX11_yard 109 = .ok (.iconst 1, 1) := by decide +kernel
theorem dX11_yard_110 : decode cX11_yard 110 = .ok (.isub, 1) := by decide +kernel
theorem dX11_yard_111 : decode cX11_yard 111 = .ok (.invokevirtual 112, 3) := by decide +kernel
theorem dX11_yard_114 : decode cX11_yard 114 = .ok (.isub, 1) := by decide +kernel
theorem dX11_yard_115 : decode cX11_yard 115 = .ok (.ireturn, 1) := by decide +kernel
theorem dX11_yard_116 : decode cX11_yard 116 = .ok (.ldc 107, 2) := by decide +kernel
theorem dX11_yard_118 : decode cX11_yard 118 = .ok (.ireturn, 1) := by decide +kernel
set_option maxRecDepth 20000 in
theorem ggX11_tip_X11_hasRiver : GoodIn wsX11_tip wsX11_hasRiver := goodIn_r _ [11, 2, 3, 5, 12, 77, 78, 79, 80, 81, 82, 83, 84, 85, 86, 87, 88, 89, 90, 91, 92, 93, 94, 95, 96, 97, 98, 99, 100, 101, 102, 103, 104, 105] rfl (by decide +kernel)
set_option maxRecDepth 20000 in
theorem gX11_tip_X11_hasRiver : GoodIn wsX11_tip (wsV RX11 115 RX11 yX11_hasRiver wsX11_hasRiver) := goodIn_app (goodIn_of _ (by decide +kernel)) ggX11_tip_X11_hasRiver
set_option maxRecDepth 20000 in
theorem ggX11_tip_X11_isSide : GoodIn wsX11_tip wsX11_isSide := goodIn_r _ [15] rfl (by decide +kernel)
set_option maxRecDepth 20000 in
theorem gX11_tip_X11_isSide : GoodIn wsX11_tip (va_wsS RX11 97 yX11_isSide wsX11_isSide) := goodIn_app (goodIn_of _ (by decide +kernel)) ggX11_tip_X11_isSide
set_option maxRecDepth 20000 in
theorem ggX11_tip_X8_errorOn : GoodIn wsX11_tip wsX8_errorOn := goodIn_r _ [20, 21, 22, 23, 24, 25, 87, 88, 89, 90, 91] rfl (by decide +kernel)
set_option maxRecDepth 20000 in
theorem gX11_tip_X8_errorOn : GoodIn wsX11_tip (wsV RX11 122 RX8 yX8_errorOn wsX8_errorOn) := goodIn_app (goodIn_of _ (by decide +kernel)) ggX11_tip_X8_errorOn
set_option maxRecDepth 20000 in
theorem ggX11_tip_X9_yardsOf : GoodIn wsX11_tip wsX9_yardsOf := goodIn_r _ [30, 31, 92, 93, 94, 95, 96] rfl (by decide +kernel)
set_option maxRecDepth 20000 in
theorem gX11_tip_X9_yardsOf : GoodIn wsX11_tip (wsV RX11 101 RX9 yX9_yardsOf wsX9_yardsOf) := goodIn_app (goodIn_of _ (by decide +kernel)) ggX11_tip_X9_yardsOf
set_option maxRecDepth 20000 in
theorem ggX11_tip_X9_tipLine : GoodIn wsX11_tip wsX9_tipLine := goodIn_r _ [35, 31, 36, 37, 38, 92, 93, 94, 95, 96, 97, 98, 99, 100, 101, 102, 103, 104, 105] rfl (by decide +kernel)
set_option maxRecDepth 20000 in
theorem gX11_tip_X9_tipLine : GoodIn wsX11_tip (wsV RX11 125 RX9 yX9_tipLine wsX9_tipLine) := goodIn_app (goodIn_of _ (by decide +kernel)) ggX11_tip_X9_tipLine
set_option maxRecDepth 20000 in
theorem ggX11_tip_X9_tipHeight : GoodIn wsX11_tip wsX9_tipHeight := goodIn_r _ [42, 31, 36, 43, 44, 92, 93, 94, 95, 96, 97, 98, 99, 100, 101, 102, 103, 104, 105] rfl (by decide +kernel)
set_option maxRecDepth 20000 in
theorem gX11_tip_X9_tipHeight : GoodIn wsX11_tip (wsV RX11 128 RX9 yX9_tipHeight wsX9_tipHeight) := goodIn_app (goodIn_of _ (by decide +kernel)) ggX11_tip_X9_tipHeight
set_option maxRecDepth 20000 in
theorem ggX11_tip_X9_crookedness : GoodIn wsX11_tip wsX9_crookedness := goodIn_r _ [48, 31, 49, 50, 51, 52, 53, 54, 55, 29, 56, 36, 37, 38, 57, 58, 59, 60, 43, 44, 92, 93, 94, 95, 96, 97, 98, 99, 100, 101, 102, 103, 104, 105] rfl (by decide +kernel)
set_option maxRecDepth 20000 in
theorem gX11_tip_X9_crookedness : GoodIn wsX11_tip (wsV RX11 131 RX9 yX9_crookedness wsX9_crookedness) := goodIn_app (goodIn_of _ (by decide +kernel)) ggX11_tip_X9_crookedness
set_option maxRecDepth 20000 in
theorem ggX11_tip_X9_seenLine : GoodIn wsX11_tip wsX9_seenLine := goodIn_r _ [64, 36, 65, 66, 33, 34, 29, 35, 31, 37, 38, 67, 68, 69, 70, 71, 92, 93, 94, 95, 96, 97, 98, 99, 100, 101, 102, 103, 104, 105] rfl (by decide +kernel)
set_option maxRecDepth 20000 in
theorem gX11_tip_X9_seenLine : GoodIn wsX11_tip (wsV RX11 134 RX9 yX9_seenLine wsX9_seenLine) := goodIn_app (goodIn_of _ (by decide +kernel)) ggX11_tip_X9_seenLine
set_option maxRecDepth 20000 in
theorem ggX11_tip_X9_seenHeight : GoodIn wsX11_tip wsX9_seenHeight := goodIn_r _ [75, 36, 65, 76, 40, 41, 29, 42, 31, 43, 44, 67, 68, 69, 70, 71, 92, 93, 94, 95, 96, 97, 98, 99, 100, 101, 102, 103, 104, 105] rfl (by decide +kernel)
set_option maxRecDepth 20000 in
theorem gX11_tip_X9_seenHeight : GoodIn wsX11_tip (wsV RX11 137 RX9 yX9_seenHeight wsX9_seenHeight) := goodIn_app (goodIn_of _ (by decide +kernel)) ggX11_tip_X9_seenHeight
theorem dX11_tip_0 : decode cX11_tip 0 = .ok (.aload_n 0, 1) := by decide +kernel
theorem dX11_tip_1 : decode cX11_tip 1 = .ok (.invokevirtual 115, 3) := by decide +kernel
theorem dX11_tip_4 : decode cX11_tip 4 = .ok (.ifCond .eq 10, 3) := by decide +kernel
theorem dX11_tip_7 : decode cX11_tip 7 = .ok (.iload_n 1, 1) := by decide +kernel
theorem dX11_tip_8 : decode cX11_tip 8 = .ok (.invokestatic 97, 3) := by decide +kernel
theorem dX11_tip_11 : decode cX11_tip 11 = .ok (.ifCond .ne 6, 3) := by decide +kernel
theorem dX11_tip_14 : decode cX11_tip 14 = .ok (.ldc 107, 2) := by decide +kernel
theorem dX11_tip_16 : decode cX11_tip 16 = .ok (.ireturn, 1) := by decide +kernel
theorem dX11_tip_17 : decode cX11_tip 17 = .ok (.aload_n 0, 1) := by decide +kernel
theorem dX11_tip_18 : decode cX11_tip 18 = .ok (.getfield 22, 3) := by decide +kernel
theorem dX11_tip_21 : decode cX11_tip 21 = .ok (.getfield 93, 3) := by decide +kernel
theorem dX11_tip_24 : decode cX11_tip 24 = .ok (.astore_n 3, 1) := by decide +kernel
theorem dX11_tip_25 : decode cX11_tip 25 = .ok (.aload_n 0, 1) := by decide +kernel
theorem dX11_tip_26 : decode cX11_tip 26 = .ok (.getfield 22, 3) := by decide +kernel
theorem dX11_tip_29 : decode cX11_tip 29 = .ok (.iload_n 1, 1) := by decide +kernel
theorem dX11_tip_30 : decode cX11_tip 30 = .ok (.aload_n 3, 1) := by decide +kernel
theorem dX11_tip_31 : decode cX11_tip 31 = .ok (.getfield 119, 3) := by decide +kernel
theorem dX11_tip_34 : decode cX11_tip 34 = .ok (.invokevirtual 122, 3) := by decide +kernel
theorem dX11_tip_37 : decode cX11_tip 37 = .ok (.istore 4, 2) := by decide +kernel
theorem dX11_tip_39 : decode cX11_tip 39 = .ok (.iload_n 2, 1) := by decide +kernel
theorem dX11_tip_40 : decode cX11_tip 40 = .ok (.tableswitch 94 0 6 #[44, 50, 56, 62, 68, 76, 84], 44) := by decide +kernel
theorem dX11_tip_84 : decode cX11_tip 84 = .ok (.aload_n 3, 1) := by decide +kernel
theorem dX11_tip_85 : decode cX11_tip 85 = .ok (.iload_n 1, 1) := by decide +kernel
theorem dX11_tip_86 : decode cX11_tip 86 = .ok (.invokevirtual 101, 3) := by decide +kernel
theorem dX11_tip_89 : decode cX11_tip 89 = .ok (.ireturn, 1) := by decide +kernel
theorem dX11_tip_90 : decode cX11_tip 90 = .ok (.aload_n 3, 1) := by decide +kernel
theorem dX11_tip_91 : decode cX11_tip 91 = .ok (.iload_n 1, 1) := by decide +kernel
theorem dX11_tip_92 : decode cX11_tip 92 = .ok (.invokevirtual 125, 3) := by decide +kernel
theorem dX11_tip_95 : decode cX11_tip 95 = .ok (.ireturn, 1) := by decide +kernel
theorem dX11_tip_96 : decode cX11_tip 96 = .ok (.aload_n 3, 1) := by decide +kernel
theorem dX11_tip_97 : decode cX11_tip 97 = .ok (.iload_n 1, 1) := by decide +kernel
theorem dX11_tip_98 : decode cX11_tip 98 = .ok (.invokevirtual 128, 3) := by decide +kernel
theorem dX11_tip_101 : decode cX11_tip 101 = .ok (.ireturn, 1) := by decide +kernel
theorem dX11_tip_102 : decode cX11_tip 102 = .ok (.aload_n 3, 1) := by decide +kernel
theorem dX11_tip_103 : decode cX11_tip 103 = .ok (.iload_n 1, 1) := by decide +kernel
theorem dX11_tip_104 : decode cX11_tip 104 = .ok (.invokevirtual 131, 3) := by decide +kernel
theorem dX11_tip_107 : decode cX11_tip 107 = .ok (.ireturn, 1) := by decide +kernel
theorem dX11_tip_108 : decode cX11_tip 108 = .ok (.aload_n 3, 1) := by decide +kernel
theorem dX11_tip_109 : decode cX11_tip 109 = .ok (.iload_n 1, 1) := by decide +kernel
theorem dX11_tip_110 : decode cX11_tip 110 = .ok (.iload 4, 2) := by decide +kernel
theorem dX11_tip_112 : decode cX11_tip 112 = .ok (.invokevirtual 134, 3) := by decide +kernel
theorem dX11_tip_115 : decode cX11_tip 115 = .ok (.ireturn, 1) := by decide +kernel
theorem dX11_tip_116 : decode cX11_tip 116 = .ok (.aload_n 3, 1) := by decide +kernel
theorem dX11_tip_117 : decode cX11_tip 117 = .ok (.iload_n 1, 1) := by decide +kernel
theorem dX11_tip_118 : decode cX11_tip 118 = .ok (.iload 4, 2) := by decide +kernel
theorem dX11_tip_120 : decode cX11_tip 120 = .ok (.invokevirtual 137, 3) := by decide +kernel
theorem dX11_tip_123 : decode cX11_tip 123 = .ok (.ireturn, 1) := by decide +kernel
theorem dX11_tip_124 : decode cX11_tip 124 = .ok (.aload_n 3, 1) := by decide +kernel
theorem dX11_tip_125 : decode cX11_tip 125 = .ok (.getfield 140, 3) := by decide +kernel
theorem dX11_tip_128 : decode cX11_tip 128 = .ok (.getfield 144, 3) := by decide +kernel
theorem dX11_tip_131 : decode cX11_tip 131 = .ok (.iload_n 1, 1) := by decide +kernel
theorem dX11_tip_132 : decode cX11_tip 132 = .ok (.iaload, 1) := by decide +kernel
theorem dX11_tip_133 : decode cX11_tip 133 = .ok (.ireturn, 1) := by decide +kernel
theorem dX11_tip_134 : decode cX11_tip 134 = .ok (.ldc 107, 2) := by decide +kernel
theorem dX11_tip_136 : decode cX11_tip 136 = .ok (.ireturn, 1) := by decide +kernel
set_option maxRecDepth 20000 in
theorem ggX11_err_X11_hasRiver : GoodIn wsX11_err wsX11_hasRiver := goodIn_r _ [7, 2, 8, 9, 10, 31, 32, 33, 34, 35, 36, 37, 38, 39, 40, 41, 42, 43, 44, 45, 46, 47, 48, 49, 50, 51, 52, 53, 54, 55, 56, 57, 58, 59] rfl (by decide +kernel)
set_option maxRecDepth 20000 in
theorem gX11_err_X11_hasRiver : GoodIn wsX11_err (wsV RX11 115 RX11 yX11_hasRiver wsX11_hasRiver) := goodIn_app (goodIn_of _ (by decide +kernel)) ggX11_err_X11_hasRiver
set_option maxRecDepth 20000 in
theorem ggX11_err_X11_isSide : GoodIn wsX11_err wsX11_isSide := goodIn_r _ [13] rfl (by decide +kernel)
set_option maxRecDepth 20000 in
theorem gX11_err_X11_isSide : GoodIn wsX11_err (va_wsS RX11 97 yX11_isSide wsX11_isSide) := goodIn_app (goodIn_of _ (by decide +kernel)) ggX11_err_X11_isSide
set_option maxRecDepth 20000 in
theorem ggX11_err_X11_isWithin : GoodIn wsX11_err wsX11_isWithin := goodIn_r _ [16] rfl (by decide +kernel)
set_option maxRecDepth 20000 in
theorem gX11_err_X11_isWithin : GoodIn wsX11_err (va_wsS RX11 148 yX11_isWithin wsX11_isWithin) := goodIn_app (goodIn_of _ (by decide +kernel)) ggX11_err_X11_isWithin
set_option maxRecDepth 20000 in
theorem ggX11_err_X8_tellError : GoodIn wsX11_err wsX8_tellError := goodIn_r _ [21, 22, 23, 24, 25, 20, 26, 27, 28, 29, 30, 41, 42, 43, 44, 45] rfl (by decide +kernel)
set_option maxRecDepth 20000 in
theorem gX11_err_X8_tellError : GoodIn wsX11_err (wsV RX11 152 RX8 yX8_tellError wsX8_tellError) := goodIn_app (goodIn_of _ (by decide +kernel)) ggX11_err_X8_tellError
theorem dX11_err_0 : decode cX11_err 0 = .ok (.aload_n 0, 1) := by decide +kernel
theorem dX11_err_1 : decode cX11_err 1 = .ok (.invokevirtual 115, 3) := by decide +kernel
theorem dX11_err_4 : decode cX11_err 4 = .ok (.ifCond .eq 31, 3) := by decide +kernel
theorem dX11_err_7 : decode cX11_err 7 = .ok (.iload_n 1, 1) := by decide +kernel
theorem dX11_err_8 : decode cX11_err 8 = .ok (.invokestatic 97, 3) := by decide +kernel
theorem dX11_err_11 : decode cX11_err 11 = .ok (.ifCond .eq 24, 3) := by decide +kernel
theorem dX11_err_14 : decode cX11_err 14 = .ok (.iload_n 2, 1) := by decide +kernel
theorem dX11_err_15 : decode cX11_err 15 = .ok (.iconst 0, 1) := by decide +kernel
theorem dX11_err_16 : decode cX11_err 16 = .ok (.bipush 7, 2) := by decide +kernel
theorem dX11_err_18 : decode cX11_err 18 = .ok (.invokestatic 148, 3) := by decide +kernel
theorem dX11_err_21 : decode cX11_err 21 = .ok (.ifCond .eq 14, 3) := by decide +kernel
theorem dX11_err_24 : decode cX11_err 24 = .ok (.iload_n 3, 1) := by decide +kernel
theorem dX11_err_25 : decode cX11_err 25 = .ok (.bipush (-9), 2) := by decide +kernel
theorem dX11_err_27 : decode cX11_err 27 = .ok (.bipush 9, 2) := by decide +kernel
theorem dX11_err_29 : decode cX11_err 29 = .ok (.invokestatic 148, 3) := by decide +kernel
theorem dX11_err_32 : decode cX11_err 32 = .ok (.ifCond .ne 6, 3) := by decide +kernel
theorem dX11_err_35 : decode cX11_err 35 = .ok (.ldc 107, 2) := by decide +kernel
theorem dX11_err_37 : decode cX11_err 37 = .ok (.ireturn, 1) := by decide +kernel
theorem dX11_err_38 : decode cX11_err 38 = .ok (.aload_n 0, 1) := by decide +kernel
theorem dX11_err_39 : decode cX11_err 39 = .ok (.getfield 22, 3) := by decide +kernel
theorem dX11_err_42 : decode cX11_err 42 = .ok (.iload_n 1, 1) := by decide +kernel
theorem dX11_err_43 : decode cX11_err 43 = .ok (.iload_n 2, 1) := by decide +kernel
theorem dX11_err_44 : decode cX11_err 44 = .ok (.iload_n 3, 1) := by decide +kernel
theorem dX11_err_45 : decode cX11_err 45 = .ok (.invokevirtual 152, 3) := by decide +kernel
theorem dX11_err_48 : decode cX11_err 48 = .ok (.ireturn, 1) := by decide +kernel
set_option maxRecDepth 20000 in
theorem ggX11_build_X11_hasRiver : GoodIn wsX11_build wsX11_hasRiver := goodIn_r _ [9, 1, 2, 3, 10, 41, 42, 43, 44, 45, 46, 47, 48, 49, 50, 51, 52, 53, 54, 55, 56, 57, 58, 59, 60, 61, 62, 63, 64, 65, 66, 67, 68, 69] rfl (by decide +kernel)
set_option maxRecDepth 20000 in
theorem gX11_build_X11_hasRiver : GoodIn wsX11_build (wsV RX11 115 RX11 yX11_hasRiver wsX11_hasRiver) := goodIn_app (goodIn_of _ (by decide +kernel)) ggX11_build_X11_hasRiver
set_option maxRecDepth 20000 in
theorem ggX11_build_X11_isSide : GoodIn wsX11_build wsX11_isSide := goodIn_r _ [13] rfl (by decide +kernel)
set_option maxRecDepth 20000 in
theorem gX11_build_X11_isSide : GoodIn wsX11_build (va_wsS RX11 97 yX11_isSide wsX11_isSide) := goodIn_app (goodIn_of _ (by decide +kernel)) ggX11_build_X11_isSide
set_option maxRecDepth 20000 in
theorem ggX11_build_X11_isWithin : GoodIn wsX11_build wsX11_isWithin := goodIn_r _ [16] rfl (by decide +kernel)
set_option maxRecDepth 20000 in
theorem gX11_build_X11_isWithin : GoodIn wsX11_build (va_wsS RX11 148 yX11_isWithin wsX11_isWithin) := goodIn_app (goodIn_of _ (by decide +kernel)) ggX11_build_X11_isWithin
set_option maxRecDepth 20000 in
theorem ggX11_build_X9_add : GoodIn wsX11_build wsX9_add := goodIn_r _ [21, 22, 23, 24, 25, 26, 27, 20, 28, 29, 30, 31, 32, 33, 34, 35, 36, 37, 38, 39, 40, 56, 57, 58, 59, 60, 61, 62, 63, 64, 65, 66, 67, 68, 69] rfl (by decide +kernel)
set_option maxRecDepth 20000 in
theorem gX11_build_X9_add : GoodIn wsX11_build (wsV RX11 159 RX9 yX9_add wsX9_add) := goodIn_app (goodIn_of _ (by decide +kernel)) ggX11_build_X9_add
theorem dX11_build_0 : decode cX11_build 0 = .ok (.aload_n 0, 1) := by decide +kernel
theorem dX11_build_1 : decode cX11_build 1 = .ok (.getfield 22, 3) := by decide +kernel
theorem dX11_build_4 : decode cX11_build 4 = .ok (.getfield 93, 3) := by decide +kernel
theorem dX11_build_7 : decode cX11_build 7 = .ok (.getfield 140, 3) := by decide +kernel
theorem dX11_build_10 : decode cX11_build 10 = .ok (.getfield 156, 3) := by decide +kernel
theorem dX11_build_13 : decode cX11_build 13 = .ok (.istore 4, 2) := by decide +kernel
theorem dX11_build_15 : decode cX11_build 15 = .ok (.aload_n 0, 1) := by decide +kernel
theorem dX11_build_16 : decode cX11_build 16 = .ok (.invokevirtual 115, 3) := by decide +kernel
theorem dX11_build_19 : decode cX11_build 19 = .ok (.ifCond .eq 34, 3) := by decide +kernel
theorem dX11_build_22 : decode cX11_build 22 = .ok (.iload_n 1, 1) := by decide +kernel
theorem dX11_build_23 : decode cX11_build 23 = .ok (.invokestatic 97, 3) := by decide +kernel
theorem dX11_build_26 : decode cX11_build 26 = .ok (.ifCond .eq 27, 3) := by decide +kernel
theorem dX11_build_29 : decode cX11_build 29 = .ok (.iload_n 2, 1) := by decide +kernel
theorem dX11_build_30 : decode cX11_build 30 = .ok (.iload 4, 2) := by decide +kernel
theorem dX11_build_32 : decode cX11_build 32 = .ok (.ineg, 1) := by decide +kernel
theorem dX11_build_33 : decode cX11_build 33 = .ok (.iload 4, 2) := by decide +kernel
theorem dX11_build_35 : decode cX11_build 35 = .ok (.invokestatic 148, 3) := by decide +kernel
theorem dX11_build_38 : decode cX11_build 38 = .ok (.ifCond .eq 15, 3) := by decide +kernel
theorem dX11_build_41 : decode cX11_build 41 = .ok (.iload_n 3, 1) := by decide +kernel
theorem dX11_build_42 : decode cX11_build 42 = .ok (.iload 4, 2) := by decide +kernel
theorem dX11_build_44 : decode cX11_build 44 = .ok (.ineg, 1) := by decide +kernel
theorem dX11_build_45 : decode cX11_build 45 = .ok (.iload 4, 2) := by decide +kernel
theorem dX11_build_47 : decode cX11_build 47 = .ok (.invokestatic 148, 3) := by decide +kernel
theorem dX11_build_50 : decode cX11_build 50 = .ok (.ifCond .ne 5, 3) := by decide +kernel
theorem dX11_build_53 : decode cX11_build 53 = .ok (.iconst 0, 1) := by decide +kernel
theorem dX11_build_54 : decode cX11_build 54 = .ok (.ireturn, 1) := by decide +kernel
theorem dX11_build_55 : decode cX11_build 55 = .ok (.aload_n 0, 1) := by decide +kernel
theorem dX11_build_56 : decode cX11_build 56 = .ok (.getfield 22, 3) := by decide +kernel
theorem dX11_build_59 : decode cX11_build 59 = .ok (.getfield 93, 3) := by decide +kernel
theorem dX11_build_62 : decode cX11_build 62 = .ok (.iload_n 1, 1) := by decide +kernel
theorem dX11_build_63 : decode cX11_build 63 = .ok (.iload_n 2, 1) := by decide +kernel
theorem dX11_build_64 : decode cX11_build 64 = .ok (.iload_n 3, 1) := by decide +kernel
theorem dX11_build_65 : decode cX11_build 65 = .ok (.invokevirtual 159, 3) := by decide +kernel
theorem dX11_build_68 : decode cX11_build 68 = .ok (.ireturn, 1) := by decide +kernel
set_option maxRecDepth 20000 in
theorem ggX11_pull_X11_isSide : GoodIn wsX11_pull wsX11_isSide := goodIn_r _ [6] rfl (by decide +kernel)
set_option maxRecDepth 20000 in
theorem gX11_pull_X11_isSide : GoodIn wsX11_pull (va_wsS RX11 97 yX11_isSide wsX11_isSide) := goodIn_app (goodIn_of _ (by decide +kernel)) ggX11_pull_X11_isSide
set_option maxRecDepth 20000 in
theorem ggX11_pull_X9_yardsOf : GoodIn wsX11_pull wsX9_yardsOf := goodIn_r _ [11, 12, 36, 37, 38, 39, 40] rfl (by decide +kernel)
set_option maxRecDepth 20000 in
theorem gX11_pull_X9_yardsOf : GoodIn wsX11_pull (wsV RX11 101 RX9 yX9_yardsOf wsX9_yardsOf) := goodIn_app (goodIn_of _ (by decide +kernel)) ggX11_pull_X9_yardsOf
set_option maxRecDepth 20000 in
theorem ggX11_pull_X9_take : GoodIn wsX11_pull wsX9_take := goodIn_r _ [16, 12, 17, 18, 19, 20, 36, 37, 38, 39, 40] rfl (by decide +kernel)
set_option maxRecDepth 20000 in
theorem gX11_pull_X9_take : GoodIn wsX11_pull (wsV RX11 162 RX9 yX9_take wsX9_take) := goodIn_app (goodIn_of _ (by decide +kernel)) ggX11_pull_X9_take
theorem dX11_pull_0 : decode cX11_pull 0 = .ok (.iload_n 1, 1) := by decide +kernel
theorem dX11_pull_1 : decode cX11_pull 1 = .ok (.invokestatic 97, 3) := by decide +kernel
theorem dX11_pull_4 : decode cX11_pull 4 = .ok (.ifCond .eq 17, 3) := by decide +kernel
theorem dX11_pull_7 : decode cX11_pull 7 = .ok (.aload_n 0, 1) := by decide +kernel
theorem dX11_pull_8 : decode cX11_pull 8 = .ok (.getfield 22, 3) := by decide +kernel
theorem dX11_pull_11 : decode cX11_pull 11 = .ok (.getfield 93, 3) := by decide +kernel
theorem dX11_pull_14 : decode cX11_pull 14 = .ok (.iload_n 1, 1) := by decide +kernel
theorem dX11_pull_15 : decode cX11_pull 15 = .ok (.invokevirtual 101, 3) := by decide +kernel
theorem dX11_pull_18 : decode cX11_pull 18 = .ok (.ifCond .ne 5, 3) := by decide +kernel
theorem dX11_pull_21 : decode cX11_pull 21 = .ok (.iconst 0, 1) := by decide +kernel
theorem dX11_pull_22 : decode cX11_pull 22 = .ok (.ireturn, 1) := by decide +kernel
theorem dX11_pull_23 : decode cX11_pull 23 = .ok (.aload_n 0, 1) := by decide +kernel
theorem dX11_pull_24 : decode cX11_pull 24 = .ok (.getfield 22, 3) := by decide +kernel
theorem dX11_pull_27 : decode cX11_pull 27 = .ok (.getfield 93, 3) := by decide +kernel
theorem dX11_pull_30 : decode cX11_pull 30 = .ok (.iload_n 1, 1) := by decide +kernel
theorem dX11_pull_31 : decode cX11_pull 31 = .ok (.iconst 1, 1) := by decide +kernel
theorem dX11_pull_32 : decode cX11_pull 32 = .ok (.invokevirtual 162, 3) := by decide +kernel
theorem dX11_pull_35 : decode cX11_pull 35 = .ok (.iconst 1, 1) := by decide +kernel
theorem dX11_pull_36 : decode cX11_pull 36 = .ok (.ireturn, 1) := by decide +kernel
set_option maxRecDepth 20000 in
theorem ggX11_spring_X11_areRulesAtRiver : GoodIn wsX11_spring wsX11_areRulesAtRiver := goodIn_r _ [9, 10, 11, 12, 8, 13, 1, 2, 14, 15, 16, 17, 18, 19, 20, 170, 171, 172, 173, 174, 175, 176, 177, 178, 179, 180, 181, 182, 183, 184, 185, 186, 187, 188, 189, 190, 191, 192, 193, 194, 195, 196, 197, 198] rfl (by decide +kernel)
set_option maxRecDepth 20000 in
theorem gX11_spring_X11_areRulesAtRiver : GoodIn wsX11_spring (wsV RX11 166 RX11 yX11_areRulesAtRiver wsX11_areRulesAtRiver) := goodIn_app (goodIn_of _ (by decide +kernel)) ggX11_spring_X11_areRulesAtRiver
set_option maxRecDepth 20000 in
theorem ggX11_spring_X11_isWithin : GoodIn wsX11_spring wsX11_isWithin := goodIn_r _ [23] rfl (by decide +kernel)
set_option maxRecDepth 20000 in
theorem gX11_spring_X11_isWithin : GoodIn wsX11_spring (va_wsS RX11 148 yX11_isWithin wsX11_isWithin) := goodIn_app (goodIn_of _ (by decide +kernel)) ggX11_spring_X11_isWithin
set_option maxRecDepth 20000 in
theorem ggX11_spring_X11_ruleOf : GoodIn wsX11_spring wsX11_ruleOf := goodIn_r _ [27, 20, 28, 170, 171, 172, 173, 174, 175, 176, 177, 178, 179] rfl (by decide +kernel)
set_option maxRecDepth 20000 in
theorem gX11_spring_X11_ruleOf : GoodIn wsX11_spring (wsV RX11 170 RX11 yX11_ruleOf wsX11_ruleOf) := goodIn_app (goodIn_of _ (by decide +kernel)) ggX11_spring_X11_ruleOf
set_option maxRecDepth 20000 in
theorem ggX11_spring_X0_go : GoodIn wsX11_spring wsX0_go := goodIn_r _ [33, 34, 35, 36, 37, 38, 39, 40, 41, 42, 43, 44, 45, 46, 47, 48, 49, 50, 51, 52, 53, 54, 55, 56, 57, 58, 59, 32, 60, 61, 62, 63, 64, 65, 66, 67, 68, 69, 70, 71, 72, 73, 74, 75, 76, 77, 78, 79, 80, 81, 82, 83, 84, 85, 86, 87, 88, 89, 90, 91, 92, 93, 94, 95, 96, 97, 98, 99, 100, 101, 102, 103, 104, 105, 106, 107, 108, 109, 110, 111, 112, 113, 114, 115, 116, 117, 118, 119, 120, 121, 122, 123, 124, 125, 126, 127, 128, 129, 130, 131, 132, 133, 134, 135, 136, 137, 138, 139, 140, 141, 142, 143, 144, 145, 146, 147, 148, 149, 150, 151, 152, 153, 154, 155, 156, 157, 158, 159, 160, 161, 162, 163, 164, 165, 166, 167, 168, 169, 185, 186, 187, 188, 189, 190, 191, 192, 193, 194, 195, 196, 197, 198, 180, 181, 182, 183, 184, 199, 200, 201, 202, 203, 204, 205, 206, 207, 208, 209, 210, 211, 212, 213, 214, 215, 216] rfl (by decide +kernel)
set_option maxRecDepth 20000 in
theorem gX11_spring_X0_go : GoodIn wsX11_spring (wsV RX11 174 RX0 yX0_go wsX0_go) := goodIn_app (goodIn_of _ (by decide +kernel)) ggX11_spring_X0_go
theorem dX11_spring_0 : decode cX11_spring 0 = .ok (.aload_n 0, 1) := by decide +kernel
theorem dX11_spring_1 : decode cX11_spring 1 = .ok (.iload_n 1, 1) := by decide +kernel
theorem dX11_spring_2 : decode cX11_spring 2 = .ok (.iload_n 2, 1) := by decide +kernel
theorem dX11_spring_3 : decode cX11_spring 3 = .ok (.invokevirtual 166, 3) := by decide +kernel
theorem dX11_spring_6 : decode cX11_spring 6 = .ok (.ifCond .eq 32, 3) := by decide +kernel
theorem dX11_spring_9 : decode cX11_spring 9 = .ok (.iload_n 3, 1) := by decide +kernel
theorem dX11_spring_10 : decode cX11_spring 10 = .ok (.iconst 1, 1) := by decide +kernel
theorem dX11_spring_11 : decode cX11_spring 11 = .ok (.sipush 200, 3) := by decide +kernel
theorem dX11_spring_14 : decode cX11_spring 14 = .ok (.invokestatic 148, 3) := by decide +kernel
theorem dX11_spring_17 : decode cX11_spring 17 = .ok (.ifCond .eq 21, 3) := by decide +kernel
theorem dX11_spring_20 : decode cX11_spring 20 = .ok (.aload_n 0, 1) := by decide +kernel
theorem dX11_spring_21 : decode cX11_spring 21 = .ok (.getfield 22, 3) := by decide +kernel
theorem dX11_spring_24 : decode cX11_spring 24 = .ok (.getfield 93, 3) := by decide +kernel
theorem dX11_spring_27 : decode cX11_spring 27 = .ok (.getfield 119, 3) := by decide +kernel
theorem dX11_spring_30 : decode cX11_spring 30 = .ok (.iload_n 3, 1) := by decide +kernel
theorem dX11_spring_31 : decode cX11_spring 31 = .ok (.iadd, 1) := by decide +kernel
theorem dX11_spring_32 : decode cX11_spring 32 = .ok (.sipush 9999, 3) := by decide +kernel
theorem dX11_spring_35 : decode cX11_spring 35 = .ok (.if_icmp .le 5, 3) := by decide +kernel
theorem dX11_spring_38 : decode cX11_spring 38 = .ok (.iconst (-1), 1) := by decide +kernel
theorem dX11_spring_39 : decode cX11_spring 39 = .ok (.ireturn, 1) := by decide +kernel
theorem dX11_spring_40 : decode cX11_spring 40 = .ok (.aload_n 0, 1) := by decide +kernel
theorem dX11_spring_41 : decode cX11_spring 41 = .ok (.getfield 56, 3) := by decide +kernel
theorem dX11_spring_44 : decode cX11_spring 44 = .ok (.aload_n 0, 1) := by decide +kernel
theorem dX11_spring_45 : decode cX11_spring 45 = .ok (.getfield 22, 3) := by decide +kernel
theorem dX11_spring_48 : decode cX11_spring 48 = .ok (.getfield 93, 3) := by decide +kernel
theorem dX11_spring_51 : decode cX11_spring 51 = .ok (.aload_n 0, 1) := by decide +kernel
theorem dX11_spring_52 : decode cX11_spring 52 = .ok (.getfield 22, 3) := by decide +kernel
theorem dX11_spring_55 : decode cX11_spring 55 = .ok (.aload_n 0, 1) := by decide +kernel
theorem dX11_spring_56 : decode cX11_spring 56 = .ok (.iload_n 1, 1) := by decide +kernel
theorem dX11_spring_57 : decode cX11_spring 57 = .ok (.invokevirtual 170, 3) := by decide +kernel
theorem dX11_spring_60 : decode cX11_spring 60 = .ok (.aload_n 0, 1) := by decide +kernel
theorem dX11_spring_61 : decode cX11_spring 61 = .ok (.iload_n 2, 1) := by decide +kernel
theorem dX11_spring_62 : decode cX11_spring 62 = .ok (.invokevirtual 170, 3) := by decide +kernel
theorem dX11_spring_65 : decode cX11_spring 65 = .ok (.iload_n 3, 1) := by decide +kernel
theorem dX11_spring_66 : decode cX11_spring 66 = .ok (.invokevirtual 174, 3) := by decide +kernel
theorem dX11_spring_69 : decode cX11_spring 69 = .ok (.aload_n 0, 1) := by decide +kernel
theorem dX11_spring_70 : decode cX11_spring 70 = .ok (.getfield 22, 3) := by decide +kernel
theorem dX11_spring_73 : decode cX11_spring 73 = .ok (.getfield 93, 3) := by decide +kernel
theorem dX11_spring_76 : decode cX11_spring 76 = .ok (.getfield 119, 3) := by decide +kernel
theorem dX11_spring_79 : decode cX11_spring 79 = .ok (.ireturn, 1) := by decide +kernel
set_option maxRecDepth 20000 in
theorem ggX11_miss_X11_hasRiver : GoodIn wsX11_miss wsX11_hasRiver := goodIn_r _ [7, 1, 2, 8, 9, 54, 55, 56, 57, 58, 59, 60, 61, 62, 63, 64, 65, 66, 67, 68, 69, 70, 71, 72, 73, 74, 75, 76, 77, 78, 79, 80, 81, 82] rfl (by decide +kernel)
set_option maxRecDepth 20000 in
theorem gX11_miss_X11_hasRiver : GoodIn wsX11_miss (wsV RX11 115 RX11 yX11_hasRiver wsX11_hasRiver) := goodIn_app (goodIn_of _ (by decide +kernel)) ggX11_miss_X11_hasRiver
set_option maxRecDepth 20000 in
theorem ggX11_miss_X9_missOfLines : GoodIn wsX11_miss wsX9_missOfLines := goodIn_r _ [14, 15, 16, 17, 18, 19, 20, 21, 13, 22, 23, 24, 25, 26, 69, 70, 71, 72, 73, 74, 75, 76, 77, 78, 79, 80, 81, 82] rfl (by decide +kernel)
set_option maxRecDepth 20000 in
theorem gX11_miss_X9_missOfLines : GoodIn wsX11_miss (wsV RX11 178 RX9 yX9_missOfLines wsX9_missOfLines) := goodIn_app (goodIn_of _ (by decide +kernel)) ggX11_miss_X9_missOfLines
set_option maxRecDepth 20000 in
theorem ggX11_miss_X9_missOfHeights : GoodIn wsX11_miss wsX9_missOfHeights := goodIn_r _ [30, 15, 16, 17, 18, 31, 32, 33, 13, 34, 23, 24, 35, 36, 69, 70, 71, 72, 73, 74, 75, 76, 77, 78, 79, 80, 81, 82] rfl (by decide +kernel)
set_option maxRecDepth 20000 in
theorem gX11_miss_X9_missOfHeights : GoodIn wsX11_miss (wsV RX11 182 RX9 yX9_missOfHeights wsX9_missOfHeights) := goodIn_app (goodIn_of _ (by decide +kernel)) ggX11_miss_X9_missOfHeights
set_option maxRecDepth 20000 in
theorem ggX11_miss_X9_isMet : GoodIn wsX11_miss wsX9_isMet := goodIn_r _ [40, 41, 42, 43, 13, 44, 24, 45, 23, 69, 70, 71, 72, 73, 74, 75, 76, 77, 78, 79, 80, 81, 82] rfl (by decide +kernel)
set_option maxRecDepth 20000 in
theorem gX11_miss_X9_isMet : GoodIn wsX11_miss (wsV RX11 185 RX9 yX9_isMet wsX9_isMet) := goodIn_app (goodIn_of _ (by decide +kernel)) ggX11_miss_X9_isMet
set_option maxRecDepth 20000 in
theorem ggX11_miss_X9_isInTime : GoodIn wsX11_miss wsX9_isInTime := goodIn_r _ [49, 24, 50, 51, 38, 39, 13, 40, 41, 42, 43, 44, 45, 23, 52, 11, 12, 14, 15, 16, 17, 18, 19, 20, 21, 22, 25, 26, 53, 28, 29, 30, 31, 32, 33, 34, 35, 36, 69, 70, 71, 72, 73, 74, 75, 76, 77, 78, 79, 80, 81, 82] rfl (by decide +kernel)
set_option maxRecDepth 20000 in
theorem gX11_miss_X9_isInTime : GoodIn wsX11_miss (wsV RX11 188 RX9 yX9_isInTime wsX9_isInTime) := goodIn_app (goodIn_of _ (by decide +kernel)) ggX11_miss_X9_isInTime
theorem dX11_miss_0 : decode cX11_miss 0 = .ok (.aload_n 0, 1) := by decide +kernel
theorem dX11_miss_1 : decode cX11_miss 1 = .ok (.invokevirtual 115, 3) := by decide +kernel
theorem dX11_miss_4 : decode cX11_miss 4 = .ok (.ifCond .ne 5, 3) := by decide +kernel
theorem dX11_miss_7 : decode cX11_miss 7 = .ok (.iconst (-1), 1) := by decide +kernel
theorem dX11_miss_8 : decode cX11_miss 8 = .ok (.ireturn, 1) := by decide +kernel
theorem dX11_miss_9 : decode cX11_miss 9 = .ok (.aload_n 0, 1) := by decide +kernel
theorem dX11_miss_10 : decode cX11_miss 10 = .ok (.getfield 22, 3) := by decide +kernel
theorem dX11_miss_13 : decode cX11_miss 13 = .ok (.getfield 93, 3) := by decide +kernel
theorem dX11_miss_16 : decode cX11_miss 16 = .ok (.astore_n 2, 1) := by decide +kernel
theorem dX11_miss_17 : decode cX11_miss 17 = .ok (.iload_n 1, 1) := by decide +kernel
theorem dX11_miss_18 : decode cX11_miss 18 = .ok (.tableswitch 66 0 3 #[30, 35, 40, 53], 30) := by decide +kernel
theorem dX11_miss_48 : decode cX11_miss 48 = .ok (.aload_n 2, 1) := by decide +kernel
theorem dX11_miss_49 : decode cX11_miss 49 = .ok (.invokevirtual 178, 3) := by decide +kernel
theorem dX11_miss_52 : decode cX11_miss 52 = .ok (.ireturn, 1) := by decide +kernel
theorem dX11_miss_53 : decode cX11_miss 53 = .ok (.aload_n 2, 1) := by decide +kernel
theorem dX11_miss_54 : decode cX11_miss 54 = .ok (.invokevirtual 182, 3) := by decide +kernel
theorem dX11_miss_57 : decode cX11_miss 57 = .ok (.ireturn, 1) := by decide +kernel
theorem dX11_miss_58 : decode cX11_miss 58 = .ok (.aload_n 2, 1) := by decide +kernel
theorem dX11_miss_59 : decode cX11_miss 59 = .ok (.invokevirtual 185, 3) := by decide +kernel
theorem dX11_miss_62 : decode cX11_miss 62 = .ok (.ifCond .eq 7, 3) := by decide +kernel
theorem dX11_miss_65 : decode cX11_miss 65 = .ok (.iconst 1, 1) := by decide +kernel
theorem dX11_miss_66 : decode cX11_miss 66 = .ok (.goto 4, 3) := by decide +kernel
theorem dX11_miss_69 : decode cX11_miss 69 = .ok (.iconst 0, 1) := by decide +kernel
theorem dX11_miss_70 : decode cX11_miss 70 = .ok (.ireturn, 1) := by decide +kernel
theorem dX11_miss_71 : decode cX11_miss 71 = .ok (.aload_n 2, 1) := by decide +kernel
theorem dX11_miss_72 : decode cX11_miss 72 = .ok (.invokevirtual 188, 3) := by decide +kernel
theorem dX11_miss_75 : decode cX11_miss 75 = .ok (.ifCond .eq 7, 3) := by decide +kernel
theorem dX11_miss_78 : decode cX11_miss 78 = .ok (.iconst 1, 1) := by decide +kernel
theorem dX11_miss_79 : decode cX11_miss 79 = .ok (.goto 4, 3) := by decide +kernel
theorem dX11_miss_82 : decode cX11_miss 82 = .ok (.iconst 0, 1) := by decide +kernel
theorem dX11_miss_83 : decode cX11_miss 83 = .ok (.ireturn, 1) := by decide +kernel
theorem dX11_miss_84 : decode cX11_miss 84 = .ok (.iconst (-1), 1) := by decide +kernel
theorem dX11_miss_85 : decode cX11_miss 85 = .ok (.ireturn, 1) := by decide +kernel
set_option maxRecDepth 20000 in
theorem ggX11_ahead_X11_areRulesAtRiver : GoodIn wsX11_ahead wsX11_areRulesAtRiver := goodIn_r _ [8, 9, 10, 11, 7, 12, 2, 13, 14, 15, 16, 17, 18, 19, 20, 212, 213, 214, 215, 216, 217, 218, 219, 220, 221, 227, 228, 229, 230, 231, 222, 223, 224, 225, 226, 232, 233, 234, 235, 236, 237, 238, 239, 240] rfl (by decide +kernel)
set_option maxRecDepth 20000 in
theorem gX11_ahead_X11_areRulesAtRiver : GoodIn wsX11_ahead (wsV RX11 166 RX11 yX11_areRulesAtRiver wsX11_areRulesAtRiver) := goodIn_app (goodIn_of _ (by decide +kernel)) ggX11_ahead_X11_areRulesAtRiver
set_option maxRecDepth 20000 in
theorem ggX11_ahead_X11_isWithin : GoodIn wsX11_ahead wsX11_isWithin := goodIn_r _ [23] rfl (by decide +kernel)
set_option maxRecDepth 20000 in
theorem gX11_ahead_X11_isWithin : GoodIn wsX11_ahead (va_wsS RX11 148 yX11_isWithin wsX11_isWithin) := goodIn_app (goodIn_of _ (by decide +kernel)) ggX11_ahead_X11_isWithin
set_option maxRecDepth 20000 in
theorem ggX11_ahead_X11_ruleOf : GoodIn wsX11_ahead wsX11_ruleOf := goodIn_r _ [27, 20, 28, 212, 213, 214, 215, 216, 217, 218, 219, 220, 221] rfl (by decide +kernel)
set_option maxRecDepth 20000 in
theorem gX11_ahead_X11_ruleOf : GoodIn wsX11_ahead (wsV RX11 170 RX11 yX11_ruleOf wsX11_ruleOf) := goodIn_app (goodIn_of _ (by decide +kernel)) ggX11_ahead_X11_ruleOf
set_option maxRecDepth 20000 in
theorem ggX11_ahead_X0_spanAfter : GoodIn wsX11_ahead wsX0_spanAfter := goodIn_r _ [33, 34, 35, 36, 37, 38, 39, 40, 41, 42, 43, 44, 45, 46, 47, 48, 49, 50, 51, 52, 32, 53, 54, 55, 56, 57, 58, 59, 60, 61, 62, 63, 64, 65, 66, 67, 68, 69, 70, 71, 72, 73, 74, 75, 76, 77, 78, 79, 80, 81, 82, 83, 84, 85, 86, 87, 88, 89, 90, 91, 92, 93, 94, 95, 96, 97, 98, 99, 100, 101, 102, 103, 104, 105, 106, 107, 108, 109, 110, 111, 112, 113, 114, 115, 116, 117, 118, 119, 120, 121, 122, 123, 124, 125, 126, 127, 128, 129, 130, 131, 132, 133, 134, 135, 136, 137, 138, 139, 140, 141, 142, 143, 144, 145, 146, 147, 148, 149, 150, 151, 152, 153, 154, 155, 156, 157, 158, 159, 160, 161, 162, 163, 164, 165, 166, 167, 168, 169, 170, 171, 172, 173, 174, 175, 176, 177, 178, 179, 180, 181, 182, 183, 241, 242, 243, 244, 245, 246, 247, 248, 249, 250, 251, 227, 228, 229, 230, 231, 222, 223, 224, 225, 226, 232, 233, 234, 235, 236, 237, 238, 239, 240, 252, 253, 254, 255, 256, 257, 258] rfl (by decide +kernel)
set_option maxRecDepth 20000 in
theorem gX11_ahead_X0_spanAfter : GoodIn wsX11_ahead (wsV RX11 191 RX0 yX0_spanAfter wsX0_spanAfter) := goodIn_app (goodIn_of _ (by decide +kernel)) ggX11_ahead_X0_spanAfter
set_option maxRecDepth 20000 in
theorem ggX11_ahead_X9_isMet : GoodIn wsX11_ahead wsX9_isMet := goodIn_r _ [58, 59, 60, 61, 39, 62, 41, 63, 43, 222, 223, 224, 225, 226, 232, 233, 234, 235, 236, 237, 238, 239, 240] rfl (by decide +kernel)
set_option maxRecDepth 20000 in
theorem gX11_ahead_X9_isMet : GoodIn wsX11_ahead (wsV RX11 185 RX9 yX9_isMet wsX9_isMet) := goodIn_app (goodIn_of _ (by decide +kernel)) ggX11_ahead_X9_isMet
set_option maxRecDepth 20000 in
theorem ggX11_ahead_X9_missOfLines : GoodIn wsX11_ahead wsX9_missOfLines := goodIn_r _ [188, 189, 190, 144, 191, 110, 96, 97, 39, 98, 43, 41, 99, 44, 222, 223, 224, 225, 226, 232, 233, 234, 235, 236, 237, 238, 239, 240] rfl (by decide +kernel)
set_option maxRecDepth 20000 in
theorem gX11_ahead_X9_missOfLines : GoodIn wsX11_ahead (wsV RX11 178 RX9 yX9_missOfLines wsX9_missOfLines) := goodIn_app (goodIn_of _ (by decide +kernel)) ggX11_ahead_X9_missOfLines
set_option maxRecDepth 20000 in
theorem ggX11_ahead_X9_missOfHeights : GoodIn wsX11_ahead wsX9_missOfHeights := goodIn_r _ [195, 189, 190, 144, 191, 115, 101, 102, 39, 103, 43, 41, 104, 49, 222, 223, 224, 225, 226, 232, 233, 234, 235, 236, 237, 238, 239, 240] rfl (by decide +kernel)
set_option maxRecDepth 20000 in
theorem gX11_ahead_X9_missOfHeights : GoodIn wsX11_ahead (wsV RX11 182 RX9 yX9_missOfHeights wsX9_missOfHeights) := goodIn_app (goodIn_of _ (by decide +kernel)) ggX11_ahead_X9_missOfHeights
set_option maxRecDepth 20000 in
theorem ggX11_ahead_X9_crookedness : GoodIn wsX11_ahead wsX9_crookedness := goodIn_r _ [199, 43, 189, 190, 144, 191, 125, 126, 127, 39, 128, 41, 99, 44, 200, 201, 202, 203, 104, 49, 222, 223, 224, 225, 226, 232, 233, 234, 235, 236, 237, 238, 239, 240] rfl (by decide +kernel)
set_option maxRecDepth 20000 in
theorem gX11_ahead_X9_crookedness : GoodIn wsX11_ahead (wsV RX11 131 RX9 yX9_crookedness wsX9_crookedness) := goodIn_app (goodIn_of _ (by decide +kernel)) ggX11_ahead_X9_crookedness
set_option maxRecDepth 20000 in
theorem ggX11_ahead_X9_isInTime : GoodIn wsX11_ahead wsX9_isInTime := goodIn_r _ [207, 41, 208, 209, 56, 57, 39, 58, 59, 60, 61, 62, 63, 43, 210, 186, 187, 188, 189, 190, 144, 191, 110, 96, 97, 98, 99, 44, 211, 193, 194, 195, 115, 101, 102, 103, 104, 49, 222, 223, 224, 225, 226, 232, 233, 234, 235, 236, 237, 238, 239, 240] rfl (by decide +kernel)
set_option maxRecDepth 20000 in
theorem gX11_ahead_X9_isInTime : GoodIn wsX11_ahead (wsV RX11 188 RX9 yX9_isInTime wsX9_isInTime) := goodIn_app (goodIn_of _ (by decide +kernel)) ggX11_ahead_X9_isInTime
theorem dX11_ahead_0 : decode cX11_ahead 0 = .ok (.aload_n 0, 1) := by decide +kernel
theorem dX11_ahead_1 : decode cX11_ahead 1 = .ok (.iload_n 1, 1) := by decide +kernel
theorem dX11_ahead_2 : decode cX11_ahead 2 = .ok (.iload_n 2, 1) := by decide +kernel
theorem dX11_ahead_3 : decode cX11_ahead 3 = .ok (.invokevirtual 166, 3) := by decide +kernel
theorem dX11_ahead_6 : decode cX11_ahead 6 = .ok (.ifCond .eq 24, 3) := by decide +kernel
theorem dX11_ahead_9 : decode cX11_ahead 9 = .ok (.iload_n 3, 1) := by decide +kernel
theorem dX11_ahead_10 : decode cX11_ahead 10 = .ok (.iconst 0, 1) := by decide +kernel
theorem dX11_ahead_11 : decode cX11_ahead 11 = .ok (.sipush 400, 3) := by decide +kernel
theorem dX11_ahead_14 : decode cX11_ahead 14 = .ok (.invokestatic 148, 3) := by decide +kernel
theorem dX11_ahead_17 : decode cX11_ahead 17 = .ok (.ifCond .eq 13, 3) := by decide +kernel
theorem dX11_ahead_20 : decode cX11_ahead 20 = .ok (.iload 4, 2) := by decide +kernel
theorem dX11_ahead_22 : decode cX11_ahead 22 = .ok (.iconst 0, 1) := by decide +kernel
theorem dX11_ahead_23 : decode cX11_ahead 23 = .ok (.iconst 5, 1) := by decide +kernel
theorem dX11_ahead_24 : decode cX11_ahead 24 = .ok (.invokestatic 148, 3) := by decide +kernel
theorem dX11_ahead_27 : decode cX11_ahead 27 = .ok (.ifCond .ne 5, 3) := by decide +kernel
theorem dX11_ahead_30 : decode cX11_ahead 30 = .ok (.iconst (-1), 1) := by decide +kernel
theorem dX11_ahead_31 : decode cX11_ahead 31 = .ok (.ireturn, 1) := by decide +kernel
theorem dX11_ahead_32 : decode cX11_ahead 32 = .ok (.aload_n 0, 1) := by decide +kernel
theorem dX11_ahead_33 : decode cX11_ahead 33 = .ok (.getfield 56, 3) := by decide +kernel
theorem dX11_ahead_36 : decode cX11_ahead 36 = .ok (.aload_n 0, 1) := by decide +kernel
theorem dX11_ahead_37 : decode cX11_ahead 37 = .ok (.getfield 22, 3) := by decide +kernel
theorem dX11_ahead_40 : decode cX11_ahead 40 = .ok (.aload_n 0, 1) := by decide +kernel
theorem dX11_ahead_41 : decode cX11_ahead 41 = .ok (.iload_n 1, 1) := by decide +kernel
theorem dX11_ahead_42 : decode cX11_ahead 42 = .ok (.invokevirtual 170, 3) := by decide +kernel
theorem dX11_ahead_45 : decode cX11_ahead 45 = .ok (.aload_n 0, 1) := by decide +kernel
theorem dX11_ahead_46 : decode cX11_ahead 46 = .ok (.iload_n 2, 1) := by decide +kernel
theorem dX11_ahead_47 : decode cX11_ahead 47 = .ok (.invokevirtual 170, 3) := by decide +kernel
theorem dX11_ahead_50 : decode cX11_ahead 50 = .ok (.iload_n 3, 1) := by decide +kernel
theorem dX11_ahead_51 : decode cX11_ahead 51 = .ok (.invokevirtual 191, 3) := by decide +kernel
theorem dX11_ahead_54 : decode cX11_ahead 54 = .ok (.astore 5, 2) := by decide +kernel
theorem dX11_ahead_56 : decode cX11_ahead 56 = .ok (.iload 4, 2) := by decide +kernel
theorem dX11_ahead_58 : decode cX11_ahead 58 = .ok (.tableswitch 79 0 4 #[34, 53, 59, 65, 72], 34) := by decide +kernel
theorem dX11_ahead_92 : decode cX11_ahead 92 = .ok (.aload 5, 2) := by decide +kernel
theorem dX11_ahead_94 : decode cX11_ahead 94 = .ok (.invokevirtual 185, 3) := by decide +kernel
theorem dX11_ahead_97 : decode cX11_ahead 97 = .ok (.ifCond .eq 11, 3) := by decide +kernel
theorem dX11_ahead_100 : decode cX11_ahead 100 = .ok (.aload 5, 2) := by decide +kernel
theorem dX11_ahead_102 : decode cX11_ahead 102 = .ok (.getfield 119, 3) := by decide +kernel
theorem dX11_ahead_105 : decode cX11_ahead 105 = .ok (.goto 5, 3) := by decide +kernel
theorem dX11_ahead_108 : decode cX11_ahead 108 = .ok (.bipush (-2), 2) := by decide +kernel
theorem dX11_ahead_110 : decode cX11_ahead 110 = .ok (.ireturn, 1) := by decide +kernel
theorem dX11_ahead_111 : decode cX11_ahead 111 = .ok (.aload 5, 2) := by decide +kernel
theorem dX11_ahead_113 : decode cX11_ahead 113 = .ok (.invokevirtual 178, 3) := by decide +kernel
theorem dX11_ahead_116 : decode cX11_ahead 116 = .ok (.ireturn, 1) := by decide +kernel
theorem dX11_ahead_117 : decode cX11_ahead 117 = .ok (.aload 5, 2) := by decide +kernel
theorem dX11_ahead_119 : decode cX11_ahead 119 = .ok (.invokevirtual 182, 3) := by decide +kernel
theorem dX11_ahead_122 : decode cX11_ahead 122 = .ok (.ireturn, 1) := by decide +kernel
theorem dX11_ahead_123 : decode cX11_ahead 123 = .ok (.aload 5, 2) := by decide +kernel
theorem dX11_ahead_125 : decode cX11_ahead 125 = .ok (.iconst 0, 1) := by decide +kernel
theorem dX11_ahead_126 : decode cX11_ahead 126 = .ok (.invokevirtual 131, 3) := by decide +kernel
theorem dX11_ahead_129 : decode cX11_ahead 129 = .ok (.ireturn, 1) := by decide +kernel
theorem dX11_ahead_130 : decode cX11_ahead 130 = .ok (.aload 5, 2) := by decide +kernel
theorem dX11_ahead_132 : decode cX11_ahead 132 = .ok (.iconst 1, 1) := by decide +kernel
theorem dX11_ahead_133 : decode cX11_ahead 133 = .ok (.invokevirtual 131, 3) := by decide +kernel
theorem dX11_ahead_136 : decode cX11_ahead 136 = .ok (.ireturn, 1) := by decide +kernel
theorem dX11_ahead_137 : decode cX11_ahead 137 = .ok (.aload 5, 2) := by decide +kernel
theorem dX11_ahead_139 : decode cX11_ahead 139 = .ok (.invokevirtual 188, 3) := by decide +kernel
theorem dX11_ahead_142 : decode cX11_ahead 142 = .ok (.ifCond .eq 7, 3) := by decide +kernel
theorem dX11_ahead_145 : decode cX11_ahead 145 = .ok (.iconst 1, 1) := by decide +kernel
theorem dX11_ahead_146 : decode cX11_ahead 146 = .ok (.goto 4, 3) := by decide +kernel
theorem dX11_ahead_149 : decode cX11_ahead 149 = .ok (.iconst 0, 1) := by decide +kernel
theorem dX11_ahead_150 : decode cX11_ahead 150 = .ok (.ireturn, 1) := by decide +kernel
set_option maxRecDepth 20000 in
theorem ggX11_zigzag_X11_areRulesAtRiver : GoodIn wsX11_zigzag wsX11_areRulesAtRiver := goodIn_r _ [9, 10, 11, 12, 8, 13, 2, 14, 15, 16, 17, 18, 19, 20, 21, 192, 193, 194, 195, 196, 197, 198, 199, 200, 201, 213, 214, 215, 216, 217, 218, 219, 220, 221, 222, 223, 224, 225, 226, 227, 228, 229, 230, 231] rfl (by decide +kernel)
set_option maxRecDepth 20000 in
theorem gX11_zigzag_X11_areRulesAtRiver : GoodIn wsX11_zigzag (wsV RX11 166 RX11 yX11_areRulesAtRiver wsX11_areRulesAtRiver) := goodIn_app (goodIn_of _ (by decide +kernel)) ggX11_zigzag_X11_areRulesAtRiver
set_option maxRecDepth 20000 in
theorem ggX11_zigzag_X11_isWithin : GoodIn wsX11_zigzag wsX11_isWithin := goodIn_r _ [24] rfl (by decide +kernel)
set_option maxRecDepth 20000 in
theorem gX11_zigzag_X11_isWithin : GoodIn wsX11_zigzag (va_wsS RX11 148 yX11_isWithin wsX11_isWithin) := goodIn_app (goodIn_of _ (by decide +kernel)) ggX11_zigzag_X11_isWithin
set_option maxRecDepth 20000 in
theorem ggX11_zigzag_X11_ruleOf : GoodIn wsX11_zigzag wsX11_ruleOf := goodIn_r _ [28, 21, 29, 192, 193, 194, 195, 196, 197, 198, 199, 200, 201] rfl (by decide +kernel)
set_option maxRecDepth 20000 in
theorem gX11_zigzag_X11_ruleOf : GoodIn wsX11_zigzag (wsV RX11 170 RX11 yX11_ruleOf wsX11_ruleOf) := goodIn_app (goodIn_of _ (by decide +kernel)) ggX11_zigzag_X11_ruleOf
set_option maxRecDepth 20000 in
theorem ggX11_zigzag_X0_comesAgain : GoodIn wsX11_zigzag wsX0_comesAgain := goodIn_r _ [34, 35, 36, 37, 38, 39, 40, 41, 42, 43, 44, 45, 46, 47, 48, 49, 50, 51, 52, 53, 54, 55, 56, 57, 58, 59, 60, 61, 62, 63, 64, 65, 66, 67, 68, 69, 70, 71, 72, 73, 74, 75, 76, 33, 77, 78, 79, 80, 81, 82, 83, 84, 85, 86, 87, 88, 89, 90, 91, 92, 93, 94, 95, 96, 97, 98, 99, 100, 101, 102, 103, 104, 105, 106, 107, 108, 109, 110, 111, 112, 113, 114, 115, 116, 117, 118, 119, 120, 121, 122, 123, 124, 125, 126, 127, 128, 129, 130, 131, 132, 133, 134, 135, 136, 137, 138, 139, 140, 141, 142, 143, 144, 145, 146, 147, 148, 149, 150, 151, 152, 153, 154, 155, 156, 157, 158, 159, 160, 161, 162, 163, 164, 165, 166, 167, 168, 169, 170, 171, 172, 173, 174, 175, 176, 177, 178, 179, 180, 181, 182, 183, 184, 185, 186, 187, 188, 189, 190, 191, 202, 203, 204, 205, 206, 207, 208, 209, 210, 211, 212, 213, 214, 215, 216, 217, 218, 219, 220, 221, 222, 223, 224, 225, 226, 227, 228, 229, 230, 231, 232, 233, 234, 235, 236, 237, 238] rfl (by decide +kernel)
set_option maxRecDepth 20000 in
theorem gX11_zigzag_X0_comesAgain : GoodIn wsX11_zigzag (wsV RX11 195 RX0 yX0_comesAgain wsX0_comesAgain) := goodIn_app (goodIn_of _ (by decide +kernel)) ggX11_zigzag_X0_comesAgain
theorem dX11_zigzag_0 : decode cX11_zigzag 0 = .ok (.aload_n 0, 1) := by decide +kernel
theorem dX11_zigzag_1 : decode cX11_zigzag 1 = .ok (.iload_n 1, 1) := by decide +kernel
theorem dX11_zigzag_2 : decode cX11_zigzag 2 = .ok (.iload_n 2, 1) := by decide +kernel
theorem dX11_zigzag_3 : decode cX11_zigzag 3 = .ok (.invokevirtual 166, 3) := by decide +kernel
theorem dX11_zigzag_6 : decode cX11_zigzag 6 = .ok (.ifCond .eq 12, 3) := by decide +kernel
theorem dX11_zigzag_9 : decode cX11_zigzag 9 = .ok (.iload_n 3, 1) := by decide +kernel
theorem dX11_zigzag_10 : decode cX11_zigzag 10 = .ok (.iconst 0, 1) := by decide +kernel
theorem dX11_zigzag_11 : decode cX11_zigzag 11 = .ok (.iconst 1, 1) := by decide +kernel
theorem dX11_zigzag_12 : decode cX11_zigzag 12 = .ok (.invokestatic 148, 3) := by decide +kernel
theorem dX11_zigzag_15 : decode cX11_zigzag 15 = .ok (.ifCond .ne 5, 3) := by decide +kernel
theorem dX11_zigzag_18 : decode cX11_zigzag 18 = .ok (.iconst (-1), 1) := by decide +kernel
theorem dX11_zigzag_19 : decode cX11_zigzag 19 = .ok (.ireturn, 1) := by decide +kernel
theorem dX11_zigzag_20 : decode cX11_zigzag 20 = .ok (.aload_n 0, 1) := by decide +kernel
theorem dX11_zigzag_21 : decode cX11_zigzag 21 = .ok (.getfield 56, 3) := by decide +kernel
theorem dX11_zigzag_24 : decode cX11_zigzag 24 = .ok (.aload_n 0, 1) := by decide +kernel
theorem dX11_zigzag_25 : decode cX11_zigzag 25 = .ok (.getfield 22, 3) := by decide +kernel
theorem dX11_zigzag_28 : decode cX11_zigzag 28 = .ok (.aload_n 0, 1) := by decide +kernel
theorem dX11_zigzag_29 : decode cX11_zigzag 29 = .ok (.iload_n 1, 1) := by decide +kernel
theorem dX11_zigzag_30 : decode cX11_zigzag 30 = .ok (.invokevirtual 170, 3) := by decide +kernel
theorem dX11_zigzag_33 : decode cX11_zigzag 33 = .ok (.aload_n 0, 1) := by decide +kernel
theorem dX11_zigzag_34 : decode cX11_zigzag 34 = .ok (.iload_n 2, 1) := by decide +kernel
theorem dX11_zigzag_35 : decode cX11_zigzag 35 = .ok (.invokevirtual 170, 3) := by decide +kernel
theorem dX11_zigzag_38 : decode cX11_zigzag 38 = .ok (.invokevirtual 195, 3) := by decide +kernel
theorem dX11_zigzag_41 : decode cX11_zigzag 41 = .ok (.ifCond .ne 6, 3) := by decide +kernel
theorem dX11_zigzag_44 : decode cX11_zigzag 44 = .ok (.bipush (-2), 2) := by decide +kernel
theorem dX11_zigzag_46 : decode cX11_zigzag 46 = .ok (.ireturn, 1) := by decide +kernel
theorem dX11_zigzag_47 : decode cX11_zigzag 47 = .ok (.iload_n 3, 1) := by decide +kernel
theorem dX11_zigzag_48 : decode cX11_zigzag 48 = .ok (.ifCond .ne 13, 3) := by decide +kernel
theorem dX11_zigzag_51 : decode cX11_zigzag 51 = .ok (.aload_n 0, 1) := by decide +kernel
theorem dX11_zigzag_52 : decode cX11_zigzag 52 = .ok (.getfield 56, 3) := by decide +kernel
theorem dX11_zigzag_55 : decode cX11_zigzag 55 = .ok (.getfield 199, 3) := by decide +kernel
theorem dX11_zigzag_58 : decode cX11_zigzag 58 = .ok (.goto 10, 3) := by decide +kernel
theorem dX11_zigzag_61 : decode cX11_zigzag 61 = .ok (.aload_n 0, 1) := by decide +kernel
theorem dX11_zigzag_62 : decode cX11_zigzag 62 = .ok (.getfield 56, 3) := by decide +kernel
theorem dX11_zigzag_65 : decode cX11_zigzag 65 = .ok (.getfield 202, 3) := by decide +kernel
theorem dX11_zigzag_68 : decode cX11_zigzag 68 = .ok (.ireturn, 1) := by decide +kernel
set_option maxRecDepth 20000 in
theorem ggX11_whatever_X11_areRulesAtRiver : GoodIn wsX11_whatever wsX11_areRulesAtRiver := goodIn_r _ [7, 8, 9, 10, 6, 11, 2, 12, 13, 14, 15, 16, 17, 18, 19, 213, 214, 215, 216, 217, 218, 219, 220, 221, 222, 223, 224, 225, 226, 227, 228, 229, 230, 231, 232, 233, 234, 235, 236, 237, 238, 239, 240, 241] rfl (by decide +kernel)
set_option maxRecDepth 20000 in
theorem gX11_whatever_X11_areRulesAtRiver : GoodIn wsX11_whatever (wsV RX11 166 RX11 yX11_areRulesAtRiver wsX11_areRulesAtRiver) := goodIn_app (goodIn_of _ (by decide +kernel)) ggX11_whatever_X11_areRulesAtRiver
set_option maxRecDepth 20000 in
theorem ggX11_whatever_X11_isWithin : GoodIn wsX11_whatever wsX11_isWithin := goodIn_r _ [22] rfl (by decide +kernel)
set_option maxRecDepth 20000 in
theorem gX11_whatever_X11_isWithin : GoodIn wsX11_whatever (va_wsS RX11 148 yX11_isWithin wsX11_isWithin) := goodIn_app (goodIn_of _ (by decide +kernel)) ggX11_whatever_X11_isWithin
set_option maxRecDepth 20000 in
theorem ggX11_whatever_X11_isSide : GoodIn wsX11_whatever wsX11_isSide := goodIn_r _ [25] rfl (by decide +kernel)
set_option maxRecDepth 20000 in
theorem gX11_whatever_X11_isSide : GoodIn wsX11_whatever (va_wsS RX11 97 yX11_isSide wsX11_isSide) := goodIn_app (goodIn_of _ (by decide +kernel)) ggX11_whatever_X11_isSide
set_option maxRecDepth 20000 in
theorem ggX11_whatever_X0_tellRow : GoodIn wsX11_whatever wsX0_tellRow := goodIn_r _ [30, 31, 32, 33, 34, 35, 36, 37, 242, 243, 244, 245, 246, 247, 248, 249, 250, 251, 252] rfl (by decide +kernel)
set_option maxRecDepth 20000 in
theorem gX11_whatever_X0_tellRow : GoodIn wsX11_whatever (wsV RX11 205 RX0 yX0_tellRow wsX0_tellRow) := goodIn_app (goodIn_of _ (by decide +kernel)) ggX11_whatever_X0_tellRow
set_option maxRecDepth 20000 in
theorem ggX11_whatever_X11_ruleOf : GoodIn wsX11_whatever wsX11_ruleOf := goodIn_r _ [41, 19, 42, 213, 214, 215, 216, 217, 218, 219, 220, 221, 222] rfl (by decide +kernel)
set_option maxRecDepth 20000 in
theorem gX11_whatever_X11_ruleOf : GoodIn wsX11_whatever (wsV RX11 170 RX11 yX11_ruleOf wsX11_ruleOf) := goodIn_app (goodIn_of _ (by decide +kernel)) ggX11_whatever_X11_ruleOf
set_option maxRecDepth 20000 in
theorem ggX11_whatever_X0_spanByRow : GoodIn wsX11_whatever wsX0_spanByRow := goodIn_r _ [46, 47, 48, 49, 50, 51, 52, 53, 54, 55, 56, 57, 58, 59, 60, 61, 62, 63, 64, 65, 66, 67, 68, 69, 70, 71, 72, 73, 74, 75, 29, 76, 31, 37, 32, 77, 78, 79, 80, 81, 82, 83, 84, 85, 86, 87, 88, 89, 90, 91, 92, 93, 94, 95, 96, 97, 98, 99, 100, 101, 102, 103, 104, 105, 106, 107, 108, 109, 110, 111, 112, 113, 114, 115, 116, 117, 118, 119, 120, 121, 122, 123, 124, 125, 126, 127, 128, 129, 130, 131, 132, 133, 134, 135, 136, 137, 138, 139, 140, 141, 142, 143, 144, 145, 146, 147, 148, 149, 150, 151, 152, 153, 154, 155, 156, 35, 157, 158, 159, 160, 161, 162, 163, 164, 165, 166, 167, 168, 169, 170, 171, 172, 173, 174, 175, 176, 177, 178, 179, 180, 181, 182, 183, 184, 185, 186, 187, 188, 189, 190, 191, 192, 193, 194, 195, 242, 243, 244, 245, 246, 247, 248, 249, 250, 251, 252, 223, 224, 225, 226, 227, 228, 229, 230, 231, 232, 233, 234, 235, 236, 237, 238, 239, 240, 241, 253, 254, 255, 256, 257, 258, 259] rfl (by decide +kernel)
set_option maxRecDepth 20000 in
theorem gX11_whatever_X0_spanByRow : GoodIn wsX11_whatever (wsV RX11 209 RX0 yX0_spanByRow wsX0_spanByRow) := goodIn_app (goodIn_of _ (by decide +kernel)) ggX11_whatever_X0_spanByRow
set_option maxRecDepth 20000 in
theorem ggX11_whatever_X9_isInTime : GoodIn wsX11_whatever wsX9_isInTime := goodIn_r _ [199, 55, 200, 201, 65, 66, 53, 67, 68, 69, 70, 71, 72, 57, 202, 203, 204, 205, 206, 207, 35, 208, 123, 109, 110, 111, 112, 58, 209, 210, 211, 212, 128, 114, 115, 116, 117, 63, 228, 229, 230, 231, 232, 233, 234, 235, 236, 237, 238, 239, 240, 241] rfl (by decide +kernel)
set_option maxRecDepth 20000 in
theorem gX11_whatever_X9_isInTime : GoodIn wsX11_whatever (wsV RX11 188 RX9 yX9_isInTime wsX9_isInTime) := goodIn_app (goodIn_of _ (by decide +kernel)) ggX11_whatever_X9_isInTime
theorem dX11_whatever_0 : decode cX11_whatever 0 = .ok (.aload_n 0, 1) := by decide +kernel
theorem dX11_whatever_1 : decode cX11_whatever 1 = .ok (.iload_n 1, 1) := by decide +kernel
theorem dX11_whatever_2 : decode cX11_whatever 2 = .ok (.iload_n 2, 1) := by decide +kernel
theorem dX11_whatever_3 : decode cX11_whatever 3 = .ok (.invokevirtual 166, 3) := by decide +kernel
theorem dX11_whatever_6 : decode cX11_whatever 6 = .ok (.ifCond .eq 42, 3) := by decide +kernel
theorem dX11_whatever_9 : decode cX11_whatever 9 = .ok (.iload_n 3, 1) := by decide +kernel
theorem dX11_whatever_10 : decode cX11_whatever 10 = .ok (.iconst 0, 1) := by decide +kernel
theorem dX11_whatever_11 : decode cX11_whatever 11 = .ok (.bipush 60, 2) := by decide +kernel
theorem dX11_whatever_13 : decode cX11_whatever 13 = .ok (.invokestatic 148, 3) := by decide +kernel
theorem dX11_whatever_16 : decode cX11_whatever 16 = .ok (.ifCond .eq 32, 3) := by decide +kernel
theorem dX11_whatever_19 : decode cX11_whatever 19 = .ok (.iload 4, 2) := by decide +kernel
theorem dX11_whatever_21 : decode cX11_whatever 21 = .ok (.invokestatic 97, 3) := by decide +kernel
theorem dX11_whatever_24 : decode cX11_whatever 24 = .ok (.ifCond .eq 24, 3) := by decide +kernel
theorem dX11_whatever_27 : decode cX11_whatever 27 = .ok (.iload 5, 2) := by decide +kernel
theorem dX11_whatever_29 : decode cX11_whatever 29 = .ok (.iconst 0, 1) := by decide +kernel
theorem dX11_whatever_30 : decode cX11_whatever 30 = .ok (.iconst 3, 1) := by decide +kernel
theorem dX11_whatever_31 : decode cX11_whatever 31 = .ok (.invokestatic 148, 3) := by decide +kernel
theorem dX11_whatever_34 : decode cX11_whatever 34 = .ok (.ifCond .eq 14, 3) := by decide +kernel
theorem dX11_whatever_37 : decode cX11_whatever 37 = .ok (.iload 6, 2) := by decide +kernel
theorem dX11_whatever_39 : decode cX11_whatever 39 = .ok (.iconst 1, 1) := by decide +kernel
theorem dX11_whatever_40 : decode cX11_whatever 40 = .ok (.bipush 9, 2) := by decide +kernel
theorem dX11_whatever_42 : decode cX11_whatever 42 = .ok (.invokestatic 148, 3) := by decide +kernel
theorem dX11_whatever_45 : decode cX11_whatever 45 = .ok (.ifCond .ne 5, 3) := by decide +kernel
theorem dX11_whatever_48 : decode cX11_whatever 48 = .ok (.iconst (-1), 1) := by decide +kernel
theorem dX11_whatever_49 : decode cX11_whatever 49 = .ok (.ireturn, 1) := by decide +kernel
theorem dX11_whatever_50 : decode cX11_whatever 50 = .ok (.iconst 1, 1) := by decide +kernel
theorem dX11_whatever_51 : decode cX11_whatever 51 = .ok (.istore 7, 2) := by decide +kernel
theorem dX11_whatever_53 : decode cX11_whatever 53 = .ok (.iconst 0, 1) := by decide +kernel
theorem dX11_whatever_54 : decode cX11_whatever 54 = .ok (.istore 8, 2) := by decide +kernel
theorem dX11_whatever_56 : decode cX11_whatever 56 = .ok (.iload 8, 2) := by decide +kernel
theorem dX11_whatever_58 : decode cX11_whatever 58 = .ok (.iload 5, 2) := by decide +kernel
theorem dX11_whatever_60 : decode cX11_whatever 60 = .ok (.if_icmp .ge 15, 3) := by decide +kernel
theorem dX11_whatever_63 : decode cX11_whatever 63 = .ok (.iload 7, 2) := by decide +kernel
theorem dX11_whatever_65 : decode cX11_whatever 65 = .ok (.iconst 3, 1) := by decide +kernel
theorem dX11_whatever_66 : decode cX11_whatever 66 = .ok (.imul, 1) := by decide +kernel
theorem dX11_whatever_67 : decode cX11_whatever 67 = .ok (.istore 7, 2) := by decide +kernel
theorem dX11_whatever_69 : decode cX11_whatever 69 = .ok (.iinc 8 1, 3) := by decide +kernel
theorem dX11_whatever_72 : decode cX11_whatever 72 = .ok (.goto (-16), 3) := by decide +kernel
theorem dX11_whatever_75 : decode cX11_whatever 75 = .ok (.iconst 0, 1) := by decide +kernel
theorem dX11_whatever_76 : decode cX11_whatever 76 = .ok (.istore 8, 2) := by decide +kernel
theorem dX11_whatever_78 : decode cX11_whatever 78 = .ok (.iconst 0, 1) := by decide +kernel
theorem dX11_whatever_79 : decode cX11_whatever 79 = .ok (.istore 9, 2) := by decide +kernel
theorem dX11_whatever_81 : decode cX11_whatever 81 = .ok (.iload 9, 2) := by decide +kernel
theorem dX11_whatever_83 : decode cX11_whatever 83 = .ok (.iload 7, 2) := by decide +kernel
theorem dX11_whatever_85 : decode cX11_whatever 85 = .ok (.if_icmp .ge 55, 3) := by decide +kernel
theorem dX11_whatever_88 : decode cX11_whatever 88 = .ok (.aload_n 0, 1) := by decide +kernel
theorem dX11_whatever_89 : decode cX11_whatever 89 = .ok (.getfield 56, 3) := by decide +kernel
theorem dX11_whatever_92 : decode cX11_whatever 92 = .ok (.iload 4, 2) := by decide +kernel
theorem dX11_whatever_94 : decode cX11_whatever 94 = .ok (.iload 9, 2) := by decide +kernel
theorem dX11_whatever_96 : decode cX11_whatever 96 = .ok (.iload 5, 2) := by decide +kernel
theorem dX11_whatever_98 : decode cX11_whatever 98 = .ok (.iload 6, 2) := by decide +kernel
theorem dX11_whatever_100 : decode cX11_whatever 100 = .ok (.invokevirtual 205, 3) := by decide +kernel
theorem dX11_whatever_103 : decode cX11_whatever 103 = .ok (.aload_n 0, 1) := by decide +kernel
theorem dX11_whatever_104 : decode cX11_whatever 104 = .ok (.getfield 56, 3) := by decide +kernel
theorem dX11_whatever_107 : decode cX11_whatever 107 = .ok (.aload_n 0, 1) := by decide +kernel
theorem dX11_whatever_108 : decode cX11_whatever 108 = .ok (.getfield 22, 3) := by decide +kernel
theorem dX11_whatever_111 : decode cX11_whatever 111 = .ok (.aload_n 0, 1) := by decide +kernel
theorem dX11_whatever_112 : decode cX11_whatever 112 = .ok (.iload_n 1, 1) := by decide +kernel
theorem dX11_whatever_113 : decode cX11_whatever 113 = .ok (.invokevirtual 170, 3) := by decide +kernel
theorem dX11_whatever_116 : decode cX11_whatever 116 = .ok (.aload_n 0, 1) := by decide +kernel
theorem dX11_whatever_117 : decode cX11_whatever 117 = .ok (.iload_n 2, 1) := by decide +kernel
theorem dX11_whatever_118 : decode cX11_whatever 118 = .ok (.invokevirtual 170, 3) := by decide +kernel
theorem dX11_whatever_121 : decode cX11_whatever 121 = .ok (.iload_n 3, 1) := by decide +kernel
theorem dX11_whatever_122 : decode cX11_whatever 122 = .ok (.invokevirtual 209, 3) := by decide +kernel
theorem dX11_whatever_125 : decode cX11_whatever 125 = .ok (.invokevirtual 188, 3) := by decide +kernel
theorem dX11_whatever_128 : decode cX11_whatever 128 = .ok (.ifCond .eq 6, 3) := by decide +kernel
theorem dX11_whatever_131 : decode cX11_whatever 131 = .ok (.iinc 8 1, 3) := by decide +kernel
theorem dX11_whatever_134 : decode cX11_whatever 134 = .ok (.iinc 9 1, 3) := by decide +kernel
theorem dX11_whatever_137 : decode cX11_whatever 137 = .ok (.goto (-56), 3) := by decide +kernel
theorem dX11_whatever_140 : decode cX11_whatever 140 = .ok (.iload 8, 2) := by decide +kernel
theorem dX11_whatever_142 : decode cX11_whatever 142 = .ok (.ireturn, 1) := by decide +kernel
set_option maxRecDepth 20000 in
theorem ggX11_straight_X11_isFreeHand : GoodIn wsX11_straight wsX11_isFreeHand := goodIn_r _ [11, 4, 12, 13, 14, 15, 10, 16, 17, 18, 19, 20, 21, 22, 23, 24, 25, 26, 27, 28, 29, 30, 31, 32, 33, 34, 35, 36, 37, 38, 250, 251, 252, 253, 254, 255, 256, 257, 258, 259, 283, 284, 285, 286, 287, 288, 289, 290, 291, 292, 293, 294, 295, 296, 297, 298, 299, 300, 301] rfl (by decide +kernel)
set_option maxRecDepth 20000 in
theorem gX11_straight_X11_isFreeHand : GoodIn wsX11_straight (wsV RX11 212 RX11 yX11_isFreeHand wsX11_isFreeHand) := goodIn_app (goodIn_of _ (by decide +kernel)) ggX11_straight_X11_isFreeHand
set_option maxRecDepth 20000 in
theorem ggX11_straight_X11_isWithin : GoodIn wsX11_straight wsX11_isWithin := goodIn_r _ [41] rfl (by decide +kernel)
set_option maxRecDepth 20000 in
theorem gX11_straight_X11_isWithin : GoodIn wsX11_straight (va_wsS RX11 148 yX11_isWithin wsX11_isWithin) := goodIn_app (goodIn_of _ (by decide +kernel)) ggX11_straight_X11_isWithin
set_option maxRecDepth 20000 in
theorem ggX11_straight_X11_ruleOf : GoodIn wsX11_straight wsX11_ruleOf := goodIn_r _ [45, 26, 46, 250, 251, 252, 253, 254, 255, 256, 257, 258, 259] rfl (by decide +kernel)
set_option maxRecDepth 20000 in
theorem gX11_straight_X11_ruleOf : GoodIn wsX11_straight (wsV RX11 170 RX11 yX11_ruleOf wsX11_ruleOf) := goodIn_app (goodIn_of _ (by decide +kernel)) ggX11_straight_X11_ruleOf
set_option maxRecDepth 20000 in
theorem ggX11_straight_X1_goStraight : GoodIn wsX11_straight wsX1_goStraight := goodIn_r _ [51, 52, 53, 54, 55, 56, 57, 50, 58, 59, 60, 61, 62, 63, 64, 65, 66, 67, 68, 30, 69, 36, 70, 38, 71, 72, 73, 74, 75, 76, 77, 78, 79, 80, 81, 82, 83, 84, 85, 86, 87, 88, 89, 90, 91, 92, 93, 28, 29, 31, 32, 33, 34, 35, 37, 94, 95, 96, 97, 98, 99, 100, 101, 102, 103, 104, 105, 106, 107, 108, 109, 110, 111, 112, 113, 114, 115, 116, 117, 118, 119, 120, 121, 122, 123, 124, 125, 126, 127, 128, 129, 130, 131, 132, 133, 134, 135, 136, 137, 138, 139, 140, 141, 142, 143, 144, 145, 146, 147, 148, 149, 150, 151, 152, 153, 154, 155, 156, 157, 158, 159, 160, 161, 162, 163, 164, 165, 166, 167, 168, 169, 170, 171, 172, 173, 174, 175, 176, 177, 178, 179, 180, 181, 182, 183, 184, 185, 186, 187, 188, 189, 190, 191, 192, 193, 194, 195, 196, 197, 198, 199, 200, 201, 202, 203, 204, 205, 206, 207, 208, 209, 210, 211, 212, 213, 214, 215, 216, 217, 218, 219, 220, 221, 222, 223, 224, 225, 226, 227, 228, 229, 230, 231, 232, 233, 234, 235, 236, 237, 238, 239, 240, 241, 242, 243, 244, 245, 271, 272, 273, 274, 275, 276, 277, 278, 279, 280, 281, 282, 283, 284, 285, 286, 287, 288, 289, 290, 291, 292, 293, 294, 295, 296, 297, 298, 299, 300, 301, 302, 303, 304, 305, 306, 307, 308] rfl (by decide +kernel)
set_option maxRecDepth 20000 in
theorem gX11_straight_X1_goStraight : GoodIn wsX11_straight (wsV RX11 221 RX1 yX1_goStraight wsX1_goStraight) := goodIn_app (goodIn_of _ (by decide +kernel)) ggX11_straight_X1_goStraight
set_option maxRecDepth 20000 in
theorem ggX11_straight_X1_bestTurnOn : GoodIn wsX11_straight wsX1_bestTurnOn := goodIn_r _ [249, 117, 271, 272, 273, 274, 275, 276, 277, 278, 279, 280, 281, 282] rfl (by decide +kernel)
set_option maxRecDepth 20000 in
theorem gX11_straight_X1_bestTurnOn : GoodIn wsX11_straight (wsV RX11 232 RX1 yX1_bestTurnOn wsX1_bestTurnOn) := goodIn_app (goodIn_of _ (by decide +kernel)) ggX11_straight_X1_bestTurnOn
theorem dX11_straight_0 : decode cX11_straight 0 = .ok (.aload_n 0, 1) := by decide +kernel
theorem dX11_straight_1 : decode cX11_straight 1 = .ok (.iload_n 1, 1) := by decide +kernel
theorem dX11_straight_2 : decode cX11_straight 2 = .ok (.iload_n 2, 1) := by decide +kernel
theorem dX11_straight_3 : decode cX11_straight 3 = .ok (.invokevirtual 212, 3) := by decide +kernel
theorem dX11_straight_6 : decode cX11_straight 6 = .ok (.ifCond .eq 13, 3) := by decide +kernel
theorem dX11_straight_9 : decode cX11_straight 9 = .ok (.iload_n 3, 1) := by decide +kernel
theorem dX11_straight_10 : decode cX11_straight 10 = .ok (.iconst 0, 1) := by decide +kernel
theorem dX11_straight_11 : decode cX11_straight 11 = .ok (.bipush 6, 2) := by decide +kernel
theorem dX11_straight_13 : decode cX11_straight 13 = .ok (.invokestatic 148, 3) := by decide +kernel
theorem dX11_straight_16 : decode cX11_straight 16 = .ok (.ifCond .ne 6, 3) := by decide +kernel
theorem dX11_straight_19 : decode cX11_straight 19 = .ok (.ldc 107, 2) := by decide +kernel
theorem dX11_straight_21 : decode cX11_straight 21 = .ok (.ireturn, 1) := by decide +kernel
theorem dX11_straight_22 : decode cX11_straight 22 = .ok (.aload_n 0, 1) := by decide +kernel
theorem dX11_straight_23 : decode cX11_straight 23 = .ok (.getfield 56, 3) := by decide +kernel
theorem dX11_straight_26 : decode cX11_straight 26 = .ok (.getfield 217, 3) := by decide +kernel
theorem dX11_straight_29 : decode cX11_straight 29 = .ok (.astore 4, 2) := by decide +kernel
theorem dX11_straight_31 : decode cX11_straight 31 = .ok (.aload 4, 2) := by decide +kernel
theorem dX11_straight_33 : decode cX11_straight 33 = .ok (.aload_n 0, 1) := by decide +kernel
theorem dX11_straight_34 : decode cX11_straight 34 = .ok (.getfield 22, 3) := by decide +kernel
theorem dX11_straight_37 : decode cX11_straight 37 = .ok (.iload_n 1, 1) := by decide +kernel
theorem dX11_straight_38 : decode cX11_straight 38 = .ok (.aload_n 0, 1) := by decide +kernel
theorem dX11_straight_39 : decode cX11_straight 39 = .ok (.iload_n 2, 1) := by decide +kernel
theorem dX11_straight_40 : decode cX11_straight 40 = .ok (.invokevirtual 170, 3) := by decide +kernel
theorem dX11_straight_43 : decode cX11_straight 43 = .ok (.invokevirtual 221, 3) := by decide +kernel
theorem dX11_straight_46 : decode cX11_straight 46 = .ok (.aload 4, 2) := by decide +kernel
theorem dX11_straight_48 : decode cX11_straight 48 = .ok (.getfield 225, 3) := by decide +kernel
theorem dX11_straight_51 : decode cX11_straight 51 = .ok (.ifCond .ne 6, 3) := by decide +kernel
theorem dX11_straight_54 : decode cX11_straight 54 = .ok (.bipush (-2), 2) := by decide +kernel
theorem dX11_straight_56 : decode cX11_straight 56 = .ok (.ireturn, 1) := by decide +kernel
theorem dX11_straight_57 : decode cX11_straight 57 = .ok (.iload_n 3, 1) := by decide +kernel
theorem dX11_straight_58 : decode cX11_straight 58 = .ok (.ifCond .ne 11, 3) := by decide +kernel
theorem dX11_straight_61 : decode cX11_straight 61 = .ok (.aload 4, 2) := by decide +kernel
theorem dX11_straight_63 : decode cX11_straight 63 = .ok (.getfield 229, 3) := by decide +kernel
theorem dX11_straight_66 : decode cX11_straight 66 = .ok (.goto 11, 3) := by decide +kernel
theorem dX11_straight_69 : decode cX11_straight 69 = .ok (.aload 4, 2) := by decide +kernel
theorem dX11_straight_71 : decode cX11_straight 71 = .ok (.iload_n 3, 1) := by decide +kernel
theorem dX11_straight_72 : decode cX11_straight 72 = .ok (.iconst 1, 1) := by decide +kernel
theorem dX11_straight_73 : decode cX11_straight 73 = .ok (.isub, 1) := by decide +kernel
theorem dX11_straight_74 : decode cX11_straight 74 = .ok (.invokevirtual 232, 3) := by decide +kernel
theorem dX11_straight_77 : decode cX11_straight 77 = .ok (.ireturn, 1) := by decide +kernel
set_option maxRecDepth 20000 in
theorem ggX11_spite_X11_isFreeHand : GoodIn wsX11_spite wsX11_isFreeHand := goodIn_r _ [10, 4, 11, 12, 13, 14, 9, 15, 16, 17, 18, 19, 20, 21, 22, 23, 24, 25, 26, 27, 28, 29, 30, 31, 32, 33, 34, 35, 36, 37, 249, 250, 251, 252, 253, 254, 255, 256, 257, 258, 282, 283, 284, 285, 286, 287, 288, 289, 290, 291, 292, 293, 294, 295, 296, 297, 298, 299, 300] rfl (by decide +kernel)
set_option maxRecDepth 20000 in
theorem gX11_spite_X11_isFreeHand : GoodIn wsX11_spite (wsV RX11 212 RX11 yX11_isFreeHand wsX11_isFreeHand) := goodIn_app (goodIn_of _ (by decide +kernel)) ggX11_spite_X11_isFreeHand
set_option maxRecDepth 20000 in
theorem ggX11_spite_X11_isWithin : GoodIn wsX11_spite wsX11_isWithin := goodIn_r _ [40] rfl (by decide +kernel)
set_option maxRecDepth 20000 in
theorem gX11_spite_X11_isWithin : GoodIn wsX11_spite (va_wsS RX11 148 yX11_isWithin wsX11_isWithin) := goodIn_app (goodIn_of _ (by decide +kernel)) ggX11_spite_X11_isWithin
set_option maxRecDepth 20000 in
theorem ggX11_spite_X11_ruleOf : GoodIn wsX11_spite wsX11_ruleOf := goodIn_r _ [44, 25, 45, 249, 250, 251, 252, 253, 254, 255, 256, 257, 258] rfl (by decide +kernel)
set_option maxRecDepth 20000 in
theorem gX11_spite_X11_ruleOf : GoodIn wsX11_spite (wsV RX11 170 RX11 yX11_ruleOf wsX11_ruleOf) := goodIn_app (goodIn_of _ (by decide +kernel)) ggX11_spite_X11_ruleOf
set_option maxRecDepth 20000 in
theorem ggX11_spite_X1_goSpiteful : GoodIn wsX11_spite wsX1_goSpiteful := goodIn_r _ [50, 51, 52, 53, 54, 55, 56, 49, 57, 58, 59, 60, 61, 62, 63, 64, 65, 66, 67, 29, 68, 35, 69, 37, 70, 71, 72, 73, 74, 75, 76, 77, 78, 79, 80, 81, 82, 83, 84, 85, 86, 87, 88, 89, 90, 91, 92, 27, 28, 30, 31, 32, 33, 34, 36, 93, 94, 95, 96, 97, 98, 99, 100, 101, 102, 103, 104, 105, 106, 107, 108, 109, 110, 111, 112, 113, 114, 115, 116, 117, 118, 119, 120, 121, 122, 123, 124, 125, 126, 127, 128, 129, 130, 131, 132, 133, 134, 135, 136, 137, 138, 139, 140, 141, 142, 143, 144, 145, 146, 147, 148, 149, 150, 151, 152, 153, 154, 155, 156, 157, 158, 159, 160, 161, 162, 163, 164, 165, 166, 167, 168, 169, 170, 171, 172, 173, 174, 175, 176, 177, 178, 179, 180, 181, 182, 183, 184, 185, 186, 187, 188, 189, 190, 191, 192, 193, 194, 195, 196, 197, 198, 199, 200, 201, 202, 203, 204, 205, 206, 207, 208, 209, 210, 211, 212, 213, 214, 215, 216, 217, 218, 219, 220, 221, 222, 223, 224, 225, 226, 227, 228, 229, 230, 231, 232, 233, 234, 235, 236, 237, 238, 239, 240, 241, 242, 243, 244, 270, 271, 272, 273, 274, 275, 276, 277, 278, 279, 280, 281, 282, 283, 284, 285, 286, 287, 288, 289, 290, 291, 292, 293, 294, 295, 296, 297, 298, 299, 300, 301, 302, 303, 304, 305, 306, 307] rfl (by decide +kernel)
set_option maxRecDepth 20000 in
theorem gX11_spite_X1_goSpiteful : GoodIn wsX11_spite (wsV RX11 235 RX1 yX1_goSpiteful wsX1_goSpiteful) := goodIn_app (goodIn_of _ (by decide +kernel)) ggX11_spite_X1_goSpiteful
set_option maxRecDepth 20000 in
theorem ggX11_spite_X1_bestTurnOn : GoodIn wsX11_spite wsX1_bestTurnOn := goodIn_r _ [248, 116, 270, 271, 272, 273, 274, 275, 276, 277, 278, 279, 280, 281] rfl (by decide +kernel)
set_option maxRecDepth 20000 in
theorem gX11_spite_X1_bestTurnOn : GoodIn wsX11_spite (wsV RX11 232 RX1 yX1_bestTurnOn wsX1_bestTurnOn) := goodIn_app (goodIn_of _ (by decide +kernel)) ggX11_spite_X1_bestTurnOn
theorem dX11_spite_0 : decode cX11_spite 0 = .ok (.aload_n 0, 1) := by decide +kernel
theorem dX11_spite_1 : decode cX11_spite 1 = .ok (.iload_n 1, 1) := by decide +kernel
theorem dX11_spite_2 : decode cX11_spite 2 = .ok (.iload_n 2, 1) := by decide +kernel
theorem dX11_spite_3 : decode cX11_spite 3 = .ok (.invokevirtual 212, 3) := by decide +kernel
theorem dX11_spite_6 : decode cX11_spite 6 = .ok (.ifCond .eq 23, 3) := by decide +kernel
theorem dX11_spite_9 : decode cX11_spite 9 = .ok (.iload_n 3, 1) := by decide +kernel
theorem dX11_spite_10 : decode cX11_spite 10 = .ok (.iconst 0, 1) := by decide +kernel
theorem dX11_spite_11 : decode cX11_spite 11 = .ok (.bipush 8, 2) := by decide +kernel
theorem dX11_spite_13 : decode cX11_spite 13 = .ok (.invokestatic 148, 3) := by decide +kernel
theorem dX11_spite_16 : decode cX11_spite 16 = .ok (.ifCond .eq 13, 3) := by decide +kernel
theorem dX11_spite_19 : decode cX11_spite 19 = .ok (.iload 4, 2) := by decide +kernel
theorem dX11_spite_21 : decode cX11_spite 21 = .ok (.iconst 0, 1) := by decide +kernel
theorem dX11_spite_22 : decode cX11_spite 22 = .ok (.iconst 4, 1) := by decide +kernel
theorem dX11_spite_23 : decode cX11_spite 23 = .ok (.invokestatic 148, 3) := by decide +kernel
theorem dX11_spite_26 : decode cX11_spite 26 = .ok (.ifCond .ne 6, 3) := by decide +kernel
theorem dX11_spite_29 : decode cX11_spite 29 = .ok (.ldc 107, 2) := by decide +kernel
theorem dX11_spite_31 : decode cX11_spite 31 = .ok (.ireturn, 1) := by decide +kernel
theorem dX11_spite_32 : decode cX11_spite 32 = .ok (.aload_n 0, 1) := by decide +kernel
theorem dX11_spite_33 : decode cX11_spite 33 = .ok (.getfield 56, 3) := by decide +kernel
theorem dX11_spite_36 : decode cX11_spite 36 = .ok (.getfield 217, 3) := by decide +kernel
theorem dX11_spite_39 : decode cX11_spite 39 = .ok (.astore 5, 2) := by decide +kernel
theorem dX11_spite_41 : decode cX11_spite 41 = .ok (.aload 5, 2) := by decide +kernel
theorem dX11_spite_43 : decode cX11_spite 43 = .ok (.aload_n 0, 1) := by decide +kernel
theorem dX11_spite_44 : decode cX11_spite 44 = .ok (.getfield 22, 3) := by decide +kernel
theorem dX11_spite_47 : decode cX11_spite 47 = .ok (.iload_n 1, 1) := by decide +kernel
theorem dX11_spite_48 : decode cX11_spite 48 = .ok (.aload_n 0, 1) := by decide +kernel
theorem dX11_spite_49 : decode cX11_spite 49 = .ok (.iload_n 2, 1) := by decide +kernel
theorem dX11_spite_50 : decode cX11_spite 50 = .ok (.invokevirtual 170, 3) := by decide +kernel
theorem dX11_spite_53 : decode cX11_spite 53 = .ok (.iload_n 3, 1) := by decide +kernel
theorem dX11_spite_54 : decode cX11_spite 54 = .ok (.invokevirtual 235, 3) := by decide +kernel
theorem dX11_spite_57 : decode cX11_spite 57 = .ok (.iload 4, 2) := by decide +kernel
theorem dX11_spite_59 : decode cX11_spite 59 = .ok (.ifCond .ne 11, 3) := by decide +kernel
theorem dX11_spite_62 : decode cX11_spite 62 = .ok (.aload 5, 2) := by decide +kernel
theorem dX11_spite_64 : decode cX11_spite 64 = .ok (.getfield 229, 3) := by decide +kernel
theorem dX11_spite_67 : decode cX11_spite 67 = .ok (.goto 12, 3) := by decide +kernel
theorem dX11_spite_70 : decode cX11_spite 70 = .ok (.aload 5, 2) := by decide +kernel
theorem dX11_spite_72 : decode cX11_spite 72 = .ok (.iload 4, 2) := by decide +kernel
theorem dX11_spite_74 : decode cX11_spite 74 = .ok (.iconst 1, 1) := by decide +kernel
theorem dX11_spite_75 : decode cX11_spite 75 = .ok (.isub, 1) := by decide +kernel
theorem dX11_spite_76 : decode cX11_spite 76 = .ok (.invokevirtual 232, 3) := by decide +kernel
theorem dX11_spite_79 : decode cX11_spite 79 = .ok (.ireturn, 1) := by decide +kernel
set_option maxRecDepth 20000 in
theorem ggX11_mend_X11_hasRiver : GoodIn wsX11_mend wsX11_hasRiver := goodIn_r _ [7, 1, 2, 8, 9, 46, 47, 48, 49, 50, 51, 52, 53, 54, 55, 56, 57, 58, 59, 60, 61, 62, 63, 64, 65, 66, 67, 68, 69, 70, 71, 72, 73, 74] rfl (by decide +kernel)
set_option maxRecDepth 20000 in
theorem gX11_mend_X11_hasRiver : GoodIn wsX11_mend (wsV RX11 115 RX11 yX11_hasRiver wsX11_hasRiver) := goodIn_app (goodIn_of _ (by decide +kernel)) ggX11_mend_X11_hasRiver
set_option maxRecDepth 20000 in
theorem ggX11_mend_X11_isWithin : GoodIn wsX11_mend wsX11_isWithin := goodIn_r _ [12] rfl (by decide +kernel)
set_option maxRecDepth 20000 in
theorem gX11_mend_X11_isWithin : GoodIn wsX11_mend (va_wsS RX11 148 yX11_isWithin wsX11_isWithin) := goodIn_app (goodIn_of _ (by decide +kernel)) ggX11_mend_X11_isWithin
set_option maxRecDepth 20000 in
theorem ggX11_mend_X9_yardsOf : GoodIn wsX11_mend wsX9_yardsOf := goodIn_r _ [17, 18, 61, 62, 63, 64, 65] rfl (by decide +kernel)
set_option maxRecDepth 20000 in
theorem gX11_mend_X9_yardsOf : GoodIn wsX11_mend (wsV RX11 101 RX9 yX9_yardsOf wsX9_yardsOf) := goodIn_app (goodIn_of _ (by decide +kernel)) ggX11_mend_X9_yardsOf
set_option maxRecDepth 20000 in
theorem ggX11_mend_X9_canMeetWithout : GoodIn wsX11_mend wsX9_canMeetWithout := goodIn_r _ [22, 18, 23, 24, 25, 26, 27, 28, 29, 30, 31, 16, 32, 33, 34, 35, 36, 37, 38, 39, 40, 41, 42, 43, 44, 45, 61, 62, 63, 64, 65, 66, 67, 68, 69, 70, 71, 72, 73, 74] rfl (by decide +kernel)
set_option maxRecDepth 20000 in
theorem gX11_mend_X9_canMeetWithout : GoodIn wsX11_mend (wsV RX11 239 RX9 yX9_canMeetWithout wsX9_canMeetWithout) := goodIn_app (goodIn_of _ (by decide +kernel)) ggX11_mend_X9_canMeetWithout
theorem dX11_mend_0 : decode cX11_mend 0 = .ok (.aload_n 0, 1) := by decide +kernel
theorem dX11_mend_1 : decode cX11_mend 1 = .ok (.invokevirtual 115, 3) := by decide +kernel
theorem dX11_mend_4 : decode cX11_mend 4 = .ok (.ifCond .eq 12, 3) := by decide +kernel
theorem dX11_mend_7 : decode cX11_mend 7 = .ok (.iload_n 1, 1) := by decide +kernel
theorem dX11_mend_8 : decode cX11_mend 8 = .ok (.iconst 0, 1) := by decide +kernel
theorem dX11_mend_9 : decode cX11_mend 9 = .ok (.iconst 1, 1) := by decide +kernel
theorem dX11_mend_10 : decode cX11_mend 10 = .ok (.invokestatic 148, 3) := by decide +kernel
theorem dX11_mend_13 : decode cX11_mend 13 = .ok (.ifCond .ne 5, 3) := by decide +kernel
theorem dX11_mend_16 : decode cX11_mend 16 = .ok (.iconst (-1), 1) := by decide +kernel
theorem dX11_mend_17 : decode cX11_mend 17 = .ok (.ireturn, 1) := by decide +kernel
theorem dX11_mend_18 : decode cX11_mend 18 = .ok (.aload_n 0, 1) := by decide +kernel
theorem dX11_mend_19 : decode cX11_mend 19 = .ok (.getfield 22, 3) := by decide +kernel
theorem dX11_mend_22 : decode cX11_mend 22 = .ok (.getfield 93, 3) := by decide +kernel
theorem dX11_mend_25 : decode cX11_mend 25 = .ok (.astore_n 2, 1) := by decide +kernel
theorem dX11_mend_26 : decode cX11_mend 26 = .ok (.aload_n 2, 1) := by decide +kernel
theorem dX11_mend_27 : decode cX11_mend 27 = .ok (.iconst 0, 1) := by decide +kernel
theorem dX11_mend_28 : decode cX11_mend 28 = .ok (.invokevirtual 101, 3) := by decide +kernel
theorem dX11_mend_31 : decode cX11_mend 31 = .ok (.aload_n 2, 1) := by decide +kernel
theorem dX11_mend_32 : decode cX11_mend 32 = .ok (.iconst 1, 1) := by decide +kernel
theorem dX11_mend_33 : decode cX11_mend 33 = .ok (.invokevirtual 101, 3) := by decide +kernel
theorem dX11_mend_36 : decode cX11_mend 36 = .ok (.iadd, 1) := by decide +kernel
theorem dX11_mend_37 : decode cX11_mend 37 = .ok (.istore_n 3, 1) := by decide +kernel
theorem dX11_mend_38 : decode cX11_mend 38 = .ok (.iconst 0, 1) := by decide +kernel
theorem dX11_mend_39 : decode cX11_mend 39 = .ok (.istore 4, 2) := by decide +kernel
theorem dX11_mend_41 : decode cX11_mend 41 = .ok (.iload 4, 2) := by decide +kernel
theorem dX11_mend_43 : decode cX11_mend 43 = .ok (.iload_n 3, 1) := by decide +kernel
theorem dX11_mend_44 : decode cX11_mend 44 = .ok (.if_icmp .gt 54, 3) := by decide +kernel
theorem dX11_mend_47 : decode cX11_mend 47 = .ok (.iconst 0, 1) := by decide +kernel
theorem dX11_mend_48 : decode cX11_mend 48 = .ok (.istore 5, 2) := by decide +kernel
theorem dX11_mend_50 : decode cX11_mend 50 = .ok (.iload 5, 2) := by decide +kernel
theorem dX11_mend_52 : decode cX11_mend 52 = .ok (.iload 4, 2) := by decide +kernel
theorem dX11_mend_54 : decode cX11_mend 54 = .ok (.if_icmp .gt 38, 3) := by decide +kernel
theorem dX11_mend_57 : decode cX11_mend 57 = .ok (.aload_n 2, 1) := by decide +kernel
theorem dX11_mend_58 : decode cX11_mend 58 = .ok (.iload 5, 2) := by decide +kernel
theorem dX11_mend_60 : decode cX11_mend 60 = .ok (.iload 4, 2) := by decide +kernel
theorem dX11_mend_62 : decode cX11_mend 62 = .ok (.iload 5, 2) := by decide +kernel
theorem dX11_mend_64 : decode cX11_mend 64 = .ok (.isub, 1) := by decide +kernel
theorem dX11_mend_65 : decode cX11_mend 65 = .ok (.invokevirtual 239, 3) := by decide +kernel
theorem dX11_mend_68 : decode cX11_mend 68 = .ok (.ifCond .eq 18, 3) := by decide +kernel
theorem dX11_mend_71 : decode cX11_mend 71 = .ok (.iload_n 1, 1) := by decide +kernel
theorem dX11_mend_72 : decode cX11_mend 72 = .ok (.ifCond .ne 8, 3) := by decide +kernel
theorem dX11_mend_75 : decode cX11_mend 75 = .ok (.iload 5, 2) := by decide +kernel
theorem dX11_mend_77 : decode cX11_mend 77 = .ok (.goto 8, 3) := by decide +kernel
theorem dX11_mend_80 : decode cX11_mend 80 = .ok (.iload 4, 2) := by decide +kernel
theorem dX11_mend_82 : decode cX11_mend 82 = .ok (.iload 5, 2) := by decide +kernel
theorem dX11_mend_84 : decode cX11_mend 84 = .ok (.isub, 1) := by decide +kernel
theorem dX11_mend_85 : decode cX11_mend 85 = .ok (.ireturn, 1) := by decide +kernel
theorem dX11_mend_86 : decode cX11_mend 86 = .ok (.iinc 5 1, 3) := by decide +kernel
theorem dX11_mend_89 : decode cX11_mend 89 = .ok (.goto (-39), 3) := by decide +kernel
theorem dX11_mend_92 : decode cX11_mend 92 = .ok (.iinc 4 1, 3) := by decide +kernel
theorem dX11_mend_95 : decode cX11_mend 95 = .ok (.goto (-54), 3) := by decide +kernel
theorem dX11_mend_98 : decode cX11_mend 98 = .ok (.bipush (-2), 2) := by decide +kernel
theorem dX11_mend_100 : decode cX11_mend 100 = .ok (.ireturn, 1) := by decide +kernel
set_option maxRecDepth 20000 in
theorem ggX11_ruin_X11_hasRiver : GoodIn wsX11_ruin wsX11_hasRiver := goodIn_r _ [6, 1, 7, 8, 9, 32, 33, 34, 35, 36, 37, 38, 39, 40, 41, 42, 43, 44, 45, 46, 47, 48, 49, 50, 51, 52, 53, 54, 55, 56, 57, 58, 59, 60] rfl (by decide +kernel)
set_option maxRecDepth 20000 in
theorem gX11_ruin_X11_hasRiver : GoodIn wsX11_ruin (wsV RX11 115 RX11 yX11_hasRiver wsX11_hasRiver) := goodIn_app (goodIn_of _ (by decide +kernel)) ggX11_ruin_X11_hasRiver
set_option maxRecDepth 20000 in
theorem ggX11_ruin_X11_isSide : GoodIn wsX11_ruin wsX11_isSide := goodIn_r _ [12] rfl (by decide +kernel)
set_option maxRecDepth 20000 in
theorem gX11_ruin_X11_isSide : GoodIn wsX11_ruin (va_wsS RX11 97 yX11_isSide wsX11_isSide) := goodIn_app (goodIn_of _ (by decide +kernel)) ggX11_ruin_X11_isSide
set_option maxRecDepth 20000 in
theorem ggX11_ruin_X8_clearRuins : GoodIn wsX11_ruin wsX8_clearRuins := goodIn_r _ [17, 18, 19, 20, 21, 22, 23, 24, 42, 43, 44, 45, 46] rfl (by decide +kernel)
set_option maxRecDepth 20000 in
theorem gX11_ruin_X8_clearRuins : GoodIn wsX11_ruin (wsV RX11 242 RX8 yX8_clearRuins wsX8_clearRuins) := goodIn_app (goodIn_of _ (by decide +kernel)) ggX11_ruin_X8_clearRuins
set_option maxRecDepth 20000 in
theorem ggX11_ruin_X11_isWithin : GoodIn wsX11_ruin wsX11_isWithin := goodIn_r _ [27] rfl (by decide +kernel)
set_option maxRecDepth 20000 in
theorem gX11_ruin_X11_isWithin : GoodIn wsX11_ruin (va_wsS RX11 148 yX11_isWithin wsX11_isWithin) := goodIn_app (goodIn_of _ (by decide +kernel)) ggX11_ruin_X11_isWithin
set_option maxRecDepth 20000 in
theorem ggX11_ruin_X8_tellRuin : GoodIn wsX11_ruin wsX8_tellRuin := goodIn_r _ [31, 18, 20, 19, 42, 43, 44, 45, 46] rfl (by decide +kernel)
set_option maxRecDepth 20000 in
theorem gX11_ruin_X8_tellRuin : GoodIn wsX11_ruin (wsV RX11 245 RX8 yX8_tellRuin wsX8_tellRuin) := goodIn_app (goodIn_of _ (by decide +kernel)) ggX11_ruin_X8_tellRuin
theorem dX11_ruin_0 : decode cX11_ruin 0 = .ok (.aload_n 0, 1) := by decide +kernel
theorem dX11_ruin_1 : decode cX11_ruin 1 = .ok (.invokevirtual 115, 3) := by decide +kernel
theorem dX11_ruin_4 : decode cX11_ruin 4 = .ok (.ifCond .eq 10, 3) := by decide +kernel
theorem dX11_ruin_7 : decode cX11_ruin 7 = .ok (.iload_n 1, 1) := by decide +kernel
theorem dX11_ruin_8 : decode cX11_ruin 8 = .ok (.invokestatic 97, 3) := by decide +kernel
theorem dX11_ruin_11 : decode cX11_ruin 11 = .ok (.ifCond .ne 5, 3) := by decide +kernel
theorem dX11_ruin_14 : decode cX11_ruin 14 = .ok (.iconst 0, 1) := by decide +kernel
theorem dX11_ruin_15 : decode cX11_ruin 15 = .ok (.ireturn, 1) := by decide +kernel
theorem dX11_ruin_16 : decode cX11_ruin 16 = .ok (.iload_n 2, 1) := by decide +kernel
theorem dX11_ruin_17 : decode cX11_ruin 17 = .ok (.iconst (-1), 1) := by decide +kernel
theorem dX11_ruin_18 : decode cX11_ruin 18 = .ok (.if_icmp .ne 12, 3) := by decide +kernel
theorem dX11_ruin_21 : decode cX11_ruin 21 = .ok (.aload_n 0, 1) := by decide +kernel
theorem dX11_ruin_22 : decode cX11_ruin 22 = .ok (.getfield 22, 3) := by decide +kernel
theorem dX11_ruin_25 : decode cX11_ruin 25 = .ok (.invokevirtual 242, 3) := by decide +kernel
theorem dX11_ruin_28 : decode cX11_ruin 28 = .ok (.iconst 1, 1) := by decide +kernel
theorem dX11_ruin_29 : decode cX11_ruin 29 = .ok (.ireturn, 1) := by decide +kernel
theorem dX11_ruin_30 : decode cX11_ruin 30 = .ok (.iload_n 2, 1) := by decide +kernel
theorem dX11_ruin_31 : decode cX11_ruin 31 = .ok (.iconst 0, 1) := by decide +kernel
theorem dX11_ruin_32 : decode cX11_ruin 32 = .ok (.bipush 39, 2) := by decide +kernel
theorem dX11_ruin_34 : decode cX11_ruin 34 = .ok (.invokestatic 148, 3) := by decide +kernel
theorem dX11_ruin_37 : decode cX11_ruin 37 = .ok (.ifCond .eq 16, 3) := by decide +kernel
theorem dX11_ruin_40 : decode cX11_ruin 40 = .ok (.iload_n 3, 1) := by decide +kernel
theorem dX11_ruin_41 : decode cX11_ruin 41 = .ok (.sipush (-9999), 3) := by decide +kernel
theorem dX11_ruin_44 : decode cX11_ruin 44 = .ok (.sipush 9999, 3) := by decide +kernel
theorem dX11_ruin_47 : decode cX11_ruin 47 = .ok (.invokestatic 148, 3) := by decide +kernel
theorem dX11_ruin_50 : decode cX11_ruin 50 = .ok (.ifCond .ne 5, 3) := by decide +kernel
theorem dX11_ruin_53 : decode cX11_ruin 53 = .ok (.iconst 0, 1) := by decide +kernel
theorem dX11_ruin_54 : decode cX11_ruin 54 = .ok (.ireturn, 1) := by decide +kernel
theorem dX11_ruin_55 : decode cX11_ruin 55 = .ok (.aload_n 0, 1) := by decide +kernel
theorem dX11_ruin_56 : decode cX11_ruin 56 = .ok (.getfield 22, 3) := by decide +kernel
theorem dX11_ruin_59 : decode cX11_ruin 59 = .ok (.iload_n 1, 1) := by decide +kernel
theorem dX11_ruin_60 : decode cX11_ruin 60 = .ok (.iload_n 2, 1) := by decide +kernel
theorem dX11_ruin_61 : decode cX11_ruin 61 = .ok (.iload_n 3, 1) := by decide +kernel
theorem dX11_ruin_62 : decode cX11_ruin 62 = .ok (.invokevirtual 245, 3) := by decide +kernel
theorem dX11_ruin_65 : decode cX11_ruin 65 = .ok (.iconst 1, 1) := by decide +kernel
theorem dX11_ruin_66 : decode cX11_ruin 66 = .ok (.ireturn, 1) := by decide +kernel
set_option maxRecDepth 20000 in
theorem ggX11_erred_X11_areRulesAtRiver : GoodIn wsX11_erred wsX11_areRulesAtRiver := goodIn_r _ [9, 10, 11, 12, 8, 13, 3, 14, 15, 16, 17, 18, 19, 20, 21, 210, 211, 212, 213, 214, 215, 216, 217, 218, 219, 242, 243, 244, 245, 246, 247, 248, 249, 250, 251, 252, 253, 254, 255, 256, 257, 258, 259, 260] rfl (by decide +kernel)
set_option maxRecDepth 20000 in
theorem gX11_erred_X11_areRulesAtRiver : GoodIn wsX11_erred (wsV RX11 166 RX11 yX11_areRulesAtRiver wsX11_areRulesAtRiver) := goodIn_app (goodIn_of _ (by decide +kernel)) ggX11_erred_X11_areRulesAtRiver
set_option maxRecDepth 20000 in
theorem ggX11_erred_X11_isWithin : GoodIn wsX11_erred wsX11_isWithin := goodIn_r _ [24] rfl (by decide +kernel)
set_option maxRecDepth 20000 in
theorem gX11_erred_X11_isWithin : GoodIn wsX11_erred (va_wsS RX11 148 yX11_isWithin wsX11_isWithin) := goodIn_app (goodIn_of _ (by decide +kernel)) ggX11_erred_X11_isWithin
set_option maxRecDepth 20000 in
theorem ggX11_erred_X11_ruleOf : GoodIn wsX11_erred wsX11_ruleOf := goodIn_r _ [28, 21, 29, 210, 211, 212, 213, 214, 215, 216, 217, 218, 219] rfl (by decide +kernel)
set_option maxRecDepth 20000 in
theorem gX11_erred_X11_ruleOf : GoodIn wsX11_erred (wsV RX11 170 RX11 yX11_ruleOf wsX11_ruleOf) := goodIn_app (goodIn_of _ (by decide +kernel)) ggX11_erred_X11_ruleOf
set_option maxRecDepth 20000 in
theorem ggX11_erred_X2_hold : GoodIn wsX11_erred wsX2_hold := goodIn_r _ [34, 35, 36, 37, 38, 39, 40, 41, 42, 43, 44, 45, 46, 47, 48, 49, 50, 51, 52, 53, 54, 55, 56, 57, 58, 59, 60, 61, 62, 63, 64, 65, 66, 67, 68, 33, 69, 70, 71, 72, 73, 74, 75, 76, 77, 78, 79, 80, 81, 82, 83, 84, 85, 86, 87, 88, 89, 90, 91, 92, 93, 94, 95, 96, 97, 98, 99, 100, 101, 102, 103, 104, 105, 106, 107, 108, 109, 110, 111, 112, 113, 114, 115, 116, 117, 118, 119, 120, 121, 122, 123, 124, 125, 126, 127, 128, 129, 130, 131, 132, 133, 134, 135, 136, 137, 138, 139, 140, 141, 142, 143, 144, 145, 146, 147, 148, 149, 150, 151, 152, 153, 154, 155, 156, 157, 158, 159, 160, 161, 162, 163, 164, 165, 166, 167, 168, 169, 170, 171, 172, 173, 174, 175, 176, 177, 178, 179, 180, 181, 182, 183, 184, 185, 186, 187, 188, 189, 190, 191, 192, 193, 194, 195, 196, 197, 198, 199, 200, 201, 202, 203, 204, 205, 231, 232, 233, 234, 235, 236, 237, 238, 239, 240, 241, 242, 243, 244, 245, 246, 247, 248, 249, 250, 251, 252, 253, 254, 255, 256, 257, 258, 259, 260, 261, 262, 263, 264, 265, 266, 267] rfl (by decide +kernel)
set_option maxRecDepth 20000 in
theorem gX11_erred_X2_hold : GoodIn wsX11_erred (wsV RX11 255 RX2 yX2_hold wsX2_hold) := goodIn_app (goodIn_of _ (by decide +kernel)) ggX11_erred_X2_hold
set_option maxRecDepth 20000 in
theorem ggX11_erred_X2_verdict : GoodIn wsX11_erred wsX2_verdict := goodIn_r _ [209, 45, 44, 231, 232, 233, 234, 235, 236, 237, 238, 239, 240, 241] rfl (by decide +kernel)
set_option maxRecDepth 20000 in
theorem gX11_erred_X2_verdict : GoodIn wsX11_erred (wsV RX11 262 RX2 yX2_verdict wsX2_verdict) := goodIn_app (goodIn_of _ (by decide +kernel)) ggX11_erred_X2_verdict
theorem dX11_erred_0 : decode cX11_erred 0 = .ok (.aload_n 0, 1) := by decide +kernel
theorem dX11_erred_1 : decode cX11_erred 1 = .ok (.iload_n 1, 1) := by decide +kernel
theorem dX11_erred_2 : decode cX11_erred 2 = .ok (.iload_n 2, 1) := by decide +kernel
theorem dX11_erred_3 : decode cX11_erred 3 = .ok (.invokevirtual 166, 3) := by decide +kernel
theorem dX11_erred_6 : decode cX11_erred 6 = .ok (.ifCond .eq 35, 3) := by decide +kernel
theorem dX11_erred_9 : decode cX11_erred 9 = .ok (.iload_n 3, 1) := by decide +kernel
theorem dX11_erred_10 : decode cX11_erred 10 = .ok (.iconst 1, 1) := by decide +kernel
theorem dX11_erred_11 : decode cX11_erred 11 = .ok (.iconst 4, 1) := by decide +kernel
theorem dX11_erred_12 : decode cX11_erred 12 = .ok (.invokestatic 148, 3) := by decide +kernel
theorem dX11_erred_15 : decode cX11_erred 15 = .ok (.ifCond .eq 26, 3) := by decide +kernel
theorem dX11_erred_18 : decode cX11_erred 18 = .ok (.iload 4, 2) := by decide +kernel
theorem dX11_erred_20 : decode cX11_erred 20 = .ok (.iconst 1, 1) := by decide +kernel
theorem dX11_erred_21 : decode cX11_erred 21 = .ok (.bipush 9, 2) := by decide +kernel
theorem dX11_erred_23 : decode cX11_erred 23 = .ok (.invokestatic 148, 3) := by decide +kernel
theorem dX11_erred_26 : decode cX11_erred 26 = .ok (.ifCond .eq 15, 3) := by decide +kernel
theorem dX11_erred_29 : decode cX11_erred 29 = .ok (.iload 5, 2) := by decide +kernel
theorem dX11_erred_31 : decode cX11_erred 31 = .ok (.iconst 0, 1) := by decide +kernel
theorem dX11_erred_32 : decode cX11_erred 32 = .ok (.iconst 2, 1) := by decide +kernel
theorem dX11_erred_33 : decode cX11_erred 33 = .ok (.iload_n 3, 1) := by decide +kernel
theorem dX11_erred_34 : decode cX11_erred 34 = .ok (.imul, 1) := by decide +kernel
theorem dX11_erred_35 : decode cX11_erred 35 = .ok (.invokestatic 148, 3) := by decide +kernel
theorem dX11_erred_38 : decode cX11_erred 38 = .ok (.ifCond .ne 5, 3) := by decide +kernel
theorem dX11_erred_41 : decode cX11_erred 41 = .ok (.iconst (-1), 1) := by decide +kernel
theorem dX11_erred_42 : decode cX11_erred 42 = .ok (.ireturn, 1) := by decide +kernel
theorem dX11_erred_43 : decode cX11_erred 43 = .ok (.aload_n 0, 1) := by decide +kernel
theorem dX11_erred_44 : decode cX11_erred 44 = .ok (.getfield 56, 3) := by decide +kernel
theorem dX11_erred_47 : decode cX11_erred 47 = .ok (.getfield 251, 3) := by decide +kernel
theorem dX11_erred_50 : decode cX11_erred 50 = .ok (.astore 6, 2) := by decide +kernel
theorem dX11_erred_52 : decode cX11_erred 52 = .ok (.aload 6, 2) := by decide +kernel
theorem dX11_erred_54 : decode cX11_erred 54 = .ok (.aload_n 0, 1) := by decide +kernel
theorem dX11_erred_55 : decode cX11_erred 55 = .ok (.getfield 22, 3) := by decide +kernel
theorem dX11_erred_58 : decode cX11_erred 58 = .ok (.aload_n 0, 1) := by decide +kernel
theorem dX11_erred_59 : decode cX11_erred 59 = .ok (.iload_n 1, 1) := by decide +kernel
theorem dX11_erred_60 : decode cX11_erred 60 = .ok (.invokevirtual 170, 3) := by decide +kernel
theorem dX11_erred_63 : decode cX11_erred 63 = .ok (.aload_n 0, 1) := by decide +kernel
theorem dX11_erred_64 : decode cX11_erred 64 = .ok (.iload_n 2, 1) := by decide +kernel
theorem dX11_erred_65 : decode cX11_erred 65 = .ok (.invokevirtual 170, 3) := by decide +kernel
theorem dX11_erred_68 : decode cX11_erred 68 = .ok (.iload_n 3, 1) := by decide +kernel
theorem dX11_erred_69 : decode cX11_erred 69 = .ok (.iload 4, 2) := by decide +kernel
theorem dX11_erred_71 : decode cX11_erred 71 = .ok (.invokevirtual 255, 3) := by decide +kernel
theorem dX11_erred_74 : decode cX11_erred 74 = .ok (.iload 5, 2) := by decide +kernel
theorem dX11_erred_76 : decode cX11_erred 76 = .ok (.ifCond .ne 11, 3) := by decide +kernel
theorem dX11_erred_79 : decode cX11_erred 79 = .ok (.aload 6, 2) := by decide +kernel
theorem dX11_erred_81 : decode cX11_erred 81 = .ok (.getfield 259, 3) := by decide +kernel
theorem dX11_erred_84 : decode cX11_erred 84 = .ok (.goto 12, 3) := by decide +kernel
theorem dX11_erred_87 : decode cX11_erred 87 = .ok (.aload 6, 2) := by decide +kernel
theorem dX11_erred_89 : decode cX11_erred 89 = .ok (.iload 5, 2) := by decide +kernel
theorem dX11_erred_91 : decode cX11_erred 91 = .ok (.iconst 1, 1) := by decide +kernel
theorem dX11_erred_92 : decode cX11_erred 92 = .ok (.isub, 1) := by decide +kernel
theorem dX11_erred_93 : decode cX11_erred 93 = .ok (.invokevirtual 262, 3) := by decide +kernel
theorem dX11_erred_96 : decode cX11_erred 96 = .ok (.ireturn, 1) := by decide +kernel
theorem dX11_seed_0 : decode cX11_seed 0 = .ok (.iload_n 1, 1) := by decide +kernel
theorem dX11_seed_1 : decode cX11_seed 1 = .ok (.ifCond .ge 5, 3) := by decide +kernel
theorem dX11_seed_4 : decode cX11_seed 4 = .ok (.iconst (-1), 1) := by decide +kernel
theorem dX11_seed_5 : decode cX11_seed 5 = .ok (.ireturn, 1) := by decide +kernel
theorem dX11_seed_6 : decode cX11_seed 6 = .ok (.aload_n 0, 1) := by decide +kernel
theorem dX11_seed_7 : decode cX11_seed 7 = .ok (.getfield 22, 3) := by decide +kernel
theorem dX11_seed_10 : decode cX11_seed 10 = .ok (.getfield 265, 3) := by decide +kernel
theorem dX11_seed_13 : decode cX11_seed 13 = .ok (.istore_n 2, 1) := by decide +kernel
theorem dX11_seed_14 : decode cX11_seed 14 = .ok (.aload_n 0, 1) := by decide +kernel
theorem dX11_seed_15 : decode cX11_seed 15 = .ok (.getfield 22, 3) := by decide +kernel
theorem dX11_seed_18 : decode cX11_seed 18 = .ok (.iload_n 1, 1) := by decide +kernel
theorem dX11_seed_19 : decode cX11_seed 19 = .ok (.putfield 265, 3) := by decide +kernel
theorem dX11_seed_22 : decode cX11_seed 22 = .ok (.iload_n 2, 1) := by decide +kernel
theorem dX11_seed_23 : decode cX11_seed 23 = .ok (.ireturn, 1) := by decide +kernel
set_option maxRecDepth 20000 in
theorem ggX11_tried_X11_areRulesAtRiver : GoodIn wsX11_tried wsX11_areRulesAtRiver := goodIn_r _ [9, 10, 11, 12, 8, 13, 2, 14, 15, 16, 17, 18, 19, 20, 21, 205, 206, 207, 208, 209, 210, 211, 212, 213, 214, 215, 216, 217, 218, 219, 231, 232, 233, 234, 235, 236, 237, 238, 239, 240, 241, 242, 243, 244] rfl (by decide +kernel)
set_option maxRecDepth 20000 in
theorem gX11_tried_X11_areRulesAtRiver : GoodIn wsX11_tried (wsV RX11 166 RX11 yX11_areRulesAtRiver wsX11_areRulesAtRiver) := goodIn_app (goodIn_of _ (by decide +kernel)) ggX11_tried_X11_areRulesAtRiver
set_option maxRecDepth 20000 in
theorem ggX11_tried_X11_isWithin : GoodIn wsX11_tried wsX11_isWithin := goodIn_r _ [24] rfl (by decide +kernel)
set_option maxRecDepth 20000 in
theorem gX11_tried_X11_isWithin : GoodIn wsX11_tried (va_wsS RX11 148 yX11_isWithin wsX11_isWithin) := goodIn_app (goodIn_of _ (by decide +kernel)) ggX11_tried_X11_isWithin
set_option maxRecDepth 20000 in
theorem ggX11_tried_X11_ruleOf : GoodIn wsX11_tried wsX11_ruleOf := goodIn_r _ [28, 21, 29, 205, 206, 207, 208, 209, 210, 211, 212, 213, 214] rfl (by decide +kernel)
set_option maxRecDepth 20000 in
theorem gX11_tried_X11_ruleOf : GoodIn wsX11_tried (wsV RX11 170 RX11 yX11_ruleOf wsX11_ruleOf) := goodIn_app (goodIn_of _ (by decide +kernel)) ggX11_tried_X11_ruleOf
set_option maxRecDepth 20000 in
theorem ggX11_tried_X0_spanTried : GoodIn wsX11_tried wsX0_spanTried := goodIn_r _ [34, 35, 36, 37, 38, 39, 40, 41, 42, 43, 44, 45, 46, 47, 48, 49, 50, 51, 52, 53, 54, 55, 56, 57, 58, 59, 60, 61, 62, 63, 64, 65, 66, 67, 68, 69, 70, 71, 72, 73, 74, 75, 76, 77, 78, 33, 79, 80, 81, 82, 83, 84, 85, 86, 87, 88, 89, 90, 91, 92, 93, 94, 95, 96, 97, 98, 99, 100, 101, 102, 103, 104, 105, 106, 107, 108, 109, 110, 111, 112, 113, 114, 115, 116, 117, 118, 119, 120, 121, 122, 123, 124, 125, 126, 127, 128, 129, 130, 131, 132, 133, 134, 135, 136, 137, 138, 139, 140, 141, 142, 143, 144, 145, 146, 147, 148, 149, 150, 151, 152, 153, 154, 155, 156, 157, 158, 159, 160, 161, 162, 163, 164, 165, 166, 167, 168, 169, 170, 171, 172, 173, 174, 175, 176, 177, 178, 179, 180, 181, 182, 183, 184, 185, 186, 220, 221, 222, 223, 224, 225, 226, 227, 228, 229, 230, 215, 216, 217, 218, 219, 231, 232, 233, 234, 235, 236, 237, 238, 239, 240, 241, 242, 243, 244, 245, 246, 247, 248, 249, 250, 251] rfl (by decide +kernel)
set_option maxRecDepth 20000 in
theorem gX11_tried_X0_spanTried : GoodIn wsX11_tried (wsV RX11 269 RX0 yX0_spanTried wsX0_spanTried) := goodIn_app (goodIn_of _ (by decide +kernel)) ggX11_tried_X0_spanTried
set_option maxRecDepth 20000 in
theorem ggX11_tried_X9_isInTime : GoodIn wsX11_tried wsX9_isInTime := goodIn_r _ [190, 48, 191, 192, 58, 59, 46, 60, 61, 62, 63, 64, 65, 50, 193, 194, 195, 196, 197, 198, 146, 199, 112, 98, 99, 100, 101, 51, 200, 201, 202, 203, 117, 103, 104, 105, 106, 56, 231, 232, 233, 234, 235, 236, 237, 238, 239, 240, 241, 242, 243, 244] rfl (by decide +kernel)
set_option maxRecDepth 20000 in
theorem gX11_tried_X9_isInTime : GoodIn wsX11_tried (wsV RX11 188 RX9 yX9_isInTime wsX9_isInTime) := goodIn_app (goodIn_of _ (by decide +kernel)) ggX11_tried_X9_isInTime
set_option maxRecDepth 20000 in
theorem ggX11_tried_X9_yardsOf : GoodIn wsX11_tried wsX9_yardsOf := goodIn_r _ [122, 50, 231, 232, 233, 234, 235] rfl (by decide +kernel)
set_option maxRecDepth 20000 in
theorem gX11_tried_X9_yardsOf : GoodIn wsX11_tried (wsV RX11 101 RX9 yX9_yardsOf wsX9_yardsOf) := goodIn_app (goodIn_of _ (by decide +kernel)) ggX11_tried_X9_yardsOf
theorem dX11_tried_0 : decode cX11_tried 0 = .ok (.aload_n 0, 1) := by decide +kernel
theorem dX11_tried_1 : decode cX11_tried 1 = .ok (.iload_n 1, 1) := by decide +kernel
theorem dX11_tried_2 : decode cX11_tried 2 = .ok (.iload_n 2, 1) := by decide +kernel
theorem dX11_tried_3 : decode cX11_tried 3 = .ok (.invokevirtual 166, 3) := by decide +kernel
theorem dX11_tried_6 : decode cX11_tried 6 = .ok (.ifCond .eq 46, 3) := by decide +kernel
theorem dX11_tried_9 : decode cX11_tried 9 = .ok (.iload_n 3, 1) := by decide +kernel
theorem dX11_tried_10 : decode cX11_tried 10 = .ok (.iconst 1, 1) := by decide +kernel
theorem dX11_tried_11 : decode cX11_tried 11 = .ok (.bipush 20, 2) := by decide +kernel
theorem dX11_tried_13 : decode cX11_tried 13 = .ok (.invokestatic 148, 3) := by decide +kernel
theorem dX11_tried_16 : decode cX11_tried 16 = .ok (.ifCond .eq 36, 3) := by decide +kernel
theorem dX11_tried_19 : decode cX11_tried 19 = .ok (.iload 4, 2) := by decide +kernel
theorem dX11_tried_21 : decode cX11_tried 21 = .ok (.iconst 1, 1) := by decide +kernel
theorem dX11_tried_22 : decode cX11_tried 22 = .ok (.sipush 200, 3) := by decide +kernel
theorem dX11_tried_25 : decode cX11_tried 25 = .ok (.invokestatic 148, 3) := by decide +kernel
theorem dX11_tried_28 : decode cX11_tried 28 = .ok (.ifCond .eq 24, 3) := by decide +kernel
theorem dX11_tried_31 : decode cX11_tried 31 = .ok (.iload 5, 2) := by decide +kernel
theorem dX11_tried_33 : decode cX11_tried 33 = .ok (.iconst 0, 1) := by decide +kernel
theorem dX11_tried_34 : decode cX11_tried 34 = .ok (.bipush 100, 2) := by decide +kernel
theorem dX11_tried_36 : decode cX11_tried 36 = .ok (.invokestatic 148, 3) := by decide +kernel
theorem dX11_tried_39 : decode cX11_tried 39 = .ok (.ifCond .eq 13, 3) := by decide +kernel
theorem dX11_tried_42 : decode cX11_tried 42 = .ok (.iload 6, 2) := by decide +kernel
theorem dX11_tried_44 : decode cX11_tried 44 = .ok (.iconst 0, 1) := by decide +kernel
theorem dX11_tried_45 : decode cX11_tried 45 = .ok (.iconst 1, 1) := by decide +kernel
theorem dX11_tried_46 : decode cX11_tried 46 = .ok (.invokestatic 148, 3) := by decide +kernel
theorem dX11_tried_49 : decode cX11_tried 49 = .ok (.ifCond .ne 5, 3) := by decide +kernel
theorem dX11_tried_52 : decode cX11_tried 52 = .ok (.iconst (-1), 1) := by decide +kernel
theorem dX11_tried_53 : decode cX11_tried 53 = .ok (.ireturn, 1) := by decide +kernel
theorem dX11_tried_54 : decode cX11_tried 54 = .ok (.iconst 0, 1) := by decide +kernel
theorem dX11_tried_55 : decode cX11_tried 55 = .ok (.istore 7, 2) := by decide +kernel
theorem dX11_tried_57 : decode cX11_tried 57 = .ok (.iconst 0, 1) := by decide +kernel
theorem dX11_tried_58 : decode cX11_tried 58 = .ok (.istore 8, 2) := by decide +kernel
theorem dX11_tried_60 : decode cX11_tried 60 = .ok (.aload_n 0, 1) := by decide +kernel
theorem dX11_tried_61 : decode cX11_tried 61 = .ok (.getfield 56, 3) := by decide +kernel
theorem dX11_tried_64 : decode cX11_tried 64 = .ok (.aload_n 0, 1) := by decide +kernel
theorem dX11_tried_65 : decode cX11_tried 65 = .ok (.getfield 22, 3) := by decide +kernel
theorem dX11_tried_68 : decode cX11_tried 68 = .ok (.getfield 265, 3) := by decide +kernel
theorem dX11_tried_71 : decode cX11_tried 71 = .ok (.putfield 268, 3) := by decide +kernel
theorem dX11_tried_74 : decode cX11_tried 74 = .ok (.iconst 0, 1) := by decide +kernel
theorem dX11_tried_75 : decode cX11_tried 75 = .ok (.istore 9, 2) := by decide +kernel
theorem dX11_tried_77 : decode cX11_tried 77 = .ok (.iload 9, 2) := by decide +kernel
theorem dX11_tried_79 : decode cX11_tried 79 = .ok (.iload_n 3, 1) := by decide +kernel
theorem dX11_tried_80 : decode cX11_tried 80 = .ok (.if_icmp .ge 72, 3) := by decide +kernel
theorem dX11_tried_83 : decode cX11_tried 83 = .ok (.aload_n 0, 1) := by decide +kernel
theorem dX11_tried_84 : decode cX11_tried 84 = .ok (.getfield 56, 3) := by decide +kernel
theorem dX11_tried_87 : decode cX11_tried 87 = .ok (.aload_n 0, 1) := by decide +kernel
theorem dX11_tried_88 : decode cX11_tried 88 = .ok (.getfield 22, 3) := by decide +kernel
theorem dX11_tried_91 : decode cX11_tried 91 = .ok (.aload_n 0, 1) := by decide +kernel
theorem dX11_tried_92 : decode cX11_tried 92 = .ok (.iload_n 1, 1) := by decide +kernel
theorem dX11_tried_93 : decode cX11_tried 93 = .ok (.invokevirtual 170, 3) := by decide +kernel
theorem dX11_tried_96 : decode cX11_tried 96 = .ok (.aload_n 0, 1) := by decide +kernel
theorem dX11_tried_97 : decode cX11_tried 97 = .ok (.iload_n 2, 1) := by decide +kernel
theorem dX11_tried_98 : decode cX11_tried 98 = .ok (.invokevirtual 170, 3) := by decide +kernel
theorem dX11_tried_101 : decode cX11_tried 101 = .ok (.iload 4, 2) := by decide +kernel
theorem dX11_tried_103 : decode cX11_tried 103 = .ok (.iload 5, 2) := by decide +kernel
theorem dX11_tried_105 : decode cX11_tried 105 = .ok (.invokevirtual 269, 3) := by decide +kernel
theorem dX11_tried_108 : decode cX11_tried 108 = .ok (.astore 10, 2) := by decide +kernel
theorem dX11_tried_110 : decode cX11_tried 110 = .ok (.iload 7, 2) := by decide +kernel
theorem dX11_tried_112 : decode cX11_tried 112 = .ok (.aload 10, 2) := by decide +kernel
theorem dX11_tried_114 : decode cX11_tried 114 = .ok (.invokevirtual 188, 3) := by decide +kernel
theorem dX11_tried_117 : decode cX11_tried 117 = .ok (.ifCond .eq 7, 3) := by decide +kernel
theorem dX11_tried_120 : decode cX11_tried 120 = .ok (.iconst 1, 1) := by decide +kernel
theorem dX11_tried_121 : decode cX11_tried 121 = .ok (.goto 4, 3) := by decide +kernel
theorem dX11_tried_124 : decode cX11_tried 124 = .ok (.iconst 0, 1) := by decide +kernel
theorem dX11_tried_125 : decode cX11_tried 125 = .ok (.iadd, 1) := by decide +kernel
theorem dX11_tried_126 : decode cX11_tried 126 = .ok (.istore 7, 2) := by decide +kernel
theorem dX11_tried_128 : decode cX11_tried 128 = .ok (.iload 8, 2) := by decide +kernel
theorem dX11_tried_130 : decode cX11_tried 130 = .ok (.aload 10, 2) := by decide +kernel
theorem dX11_tried_132 : decode cX11_tried 132 = .ok (.iconst 0, 1) := by decide +kernel
theorem dX11_tried_133 : decode cX11_tried 133 = .ok (.invokevirtual 101, 3) := by decide +kernel
theorem dX11_tried_136 : decode cX11_tried 136 = .ok (.aload 10, 2) := by decide +kernel
theorem dX11_tried_138 : decode cX11_tried 138 = .ok (.iconst 1, 1) := by decide +kernel
theorem dX11_tried_139 : decode cX11_tried 139 = .ok (.invokevirtual 101, 3) := by decide +kernel
theorem dX11_tried_142 : decode cX11_tried 142 = .ok (.iadd, 1) := by decide +kernel
theorem dX11_tried_143 : decode cX11_tried 143 = .ok (.iadd, 1) := by decide +kernel
theorem dX11_tried_144 : decode cX11_tried 144 = .ok (.istore 8, 2) := by decide +kernel
theorem dX11_tried_146 : decode cX11_tried 146 = .ok (.iinc 9 1, 3) := by decide +kernel
theorem dX11_tried_149 : decode cX11_tried 149 = .ok (.goto (-72), 3) := by decide +kernel
theorem dX11_tried_152 : decode cX11_tried 152 = .ok (.iload 6, 2) := by decide +kernel
theorem dX11_tried_154 : decode cX11_tried 154 = .ok (.ifCond .ne 8, 3) := by decide +kernel
theorem dX11_tried_157 : decode cX11_tried 157 = .ok (.iload 7, 2) := by decide +kernel
theorem dX11_tried_159 : decode cX11_tried 159 = .ok (.goto 5, 3) := by decide +kernel
theorem dX11_tried_162 : decode cX11_tried 162 = .ok (.iload 8, 2) := by decide +kernel
theorem dX11_tried_164 : decode cX11_tried 164 = .ok (.ireturn, 1) := by decide +kernel
set_option maxRecDepth 20000 in
theorem ggX11_leap_X11_isWithin : GoodIn wsX11_leap wsX11_isWithin := goodIn_r _ [4] rfl (by decide +kernel)
set_option maxRecDepth 20000 in
theorem gX11_leap_X11_isWithin : GoodIn wsX11_leap (va_wsS RX11 148 yX11_isWithin wsX11_isWithin) := goodIn_app (goodIn_of _ (by decide +kernel)) ggX11_leap_X11_isWithin
theorem dX11_leap_0 : decode cX11_leap 0 = .ok (.iload_n 1, 1) := by decide +kernel
theorem dX11_leap_1 : decode cX11_leap 1 = .ok (.iconst 1, 1) := by decide +kernel
theorem dX11_leap_2 : decode cX11_leap 2 = .ok (.sipush 9999, 3) := by decide +kernel
theorem dX11_leap_5 : decode cX11_leap 5 = .ok (.invokestatic 148, 3) := by decide +kernel
theorem dX11_leap_8 : decode cX11_leap 8 = .ok (.ifCond .ne 5, 3) := by decide +kernel
theorem dX11_leap_11 : decode cX11_leap 11 = .ok (.iconst (-1), 1) := by decide +kernel
theorem dX11_leap_12 : decode cX11_leap 12 = .ok (.ireturn, 1) := by decide +kernel
theorem dX11_leap_13 : decode cX11_leap 13 = .ok (.iload_n 1, 1) := by decide +kernel
theorem dX11_leap_14 : decode cX11_leap 14 = .ok (.iconst 4, 1) := by decide +kernel
theorem dX11_leap_15 : decode cX11_leap 15 = .ok (.irem, 1) := by decide +kernel
theorem dX11_leap_16 : decode cX11_leap 16 = .ok (.ifCond .ne 10, 3) := by decide +kernel
theorem dX11_leap_19 : decode cX11_leap 19 = .ok (.iload_n 1, 1) := by decide +kernel
theorem dX11_leap_20 : decode cX11_leap 20 = .ok (.bipush 100, 2) := by decide +kernel
theorem dX11_leap_22 : decode cX11_leap 22 = .ok (.irem, 1) := by decide +kernel
theorem dX11_leap_23 : decode cX11_leap 23 = .ok (.ifCond .ne 11, 3) := by decide +kernel
theorem dX11_leap_26 : decode cX11_leap 26 = .ok (.iload_n 1, 1) := by decide +kernel
theorem dX11_leap_27 : decode cX11_leap 27 = .ok (.sipush 400, 3) := by decide +kernel
theorem dX11_leap_30 : decode cX11_leap 30 = .ok (.irem, 1) := by decide +kernel
theorem dX11_leap_31 : decode cX11_leap 31 = .ok (.ifCond .ne 7, 3) := by decide +kernel
theorem dX11_leap_34 : decode cX11_leap 34 = .ok (.iconst 1, 1) := by decide +kernel
theorem dX11_leap_35 : decode cX11_leap 35 = .ok (.goto 4, 3) := by decide +kernel
theorem dX11_leap_38 : decode cX11_leap 38 = .ok (.iconst 0, 1) := by decide +kernel
theorem dX11_leap_39 : decode cX11_leap 39 = .ok (.ireturn, 1) := by decide +kernel
set_option maxRecDepth 20000 in
theorem ggX11_count_X9_gap : GoodIn wsX11_count wsX9_gap := goodIn_r _ [17, 18, 19, 20, 36, 37, 38, 39, 40, 41, 42, 43, 44, 45, 46, 47, 48, 49] rfl (by decide +kernel)
set_option maxRecDepth 20000 in
theorem gX11_count_X9_gap : GoodIn wsX11_count (wsV RX11 273 RX9 yX9_gap wsX9_gap) := goodIn_app (goodIn_of _ (by decide +kernel)) ggX11_count_X9_gap
theorem dX11_count_0 : decode cX11_count 0 = .ok (.aload_n 0, 1) := by decide +kernel
theorem dX11_count_1 : decode cX11_count 1 = .ok (.getfield 22, 3) := by decide +kernel
theorem dX11_count_4 : decode cX11_count 4 = .ok (.getfield 93, 3) := by decide +kernel
theorem dX11_count_7 : decode cX11_count 7 = .ok (.astore_n 2, 1) := by decide +kernel
theorem dX11_count_8 : decode cX11_count 8 = .ok (.iload_n 1, 1) := by decide +kernel
theorem dX11_count_9 : decode cX11_count 9 = .ok (.tableswitch 123 0 9 #[55, 63, 68, 73, 78, 86, 94, 102, 110, 118], 55) := by decide +kernel
theorem dX11_count_64 : decode cX11_count 64 = .ok (.aload_n 2, 1) := by decide +kernel
theorem dX11_count_65 : decode cX11_count 65 = .ok (.getfield 140, 3) := by decide +kernel
theorem dX11_count_68 : decode cX11_count 68 = .ok (.getfield 82, 3) := by decide +kernel
theorem dX11_count_71 : decode cX11_count 71 = .ok (.ireturn, 1) := by decide +kernel
theorem dX11_count_72 : decode cX11_count 72 = .ok (.aload_n 2, 1) := by decide +kernel
theorem dX11_count_73 : decode cX11_count 73 = .ok (.invokevirtual 273, 3) := by decide +kernel
theorem dX11_count_76 : decode cX11_count 76 = .ok (.ireturn, 1) := by decide +kernel
theorem dX11_count_77 : decode cX11_count 77 = .ok (.aload_n 2, 1) := by decide +kernel
theorem dX11_count_78 : decode cX11_count 78 = .ok (.getfield 119, 3) := by decide +kernel
theorem dX11_count_81 : decode cX11_count 81 = .ok (.ireturn, 1) := by decide +kernel
theorem dX11_count_82 : decode cX11_count 82 = .ok (.aload_n 0, 1) := by decide +kernel
theorem dX11_count_83 : decode cX11_count 83 = .ok (.getfield 87, 3) := by decide +kernel
theorem dX11_count_86 : decode cX11_count 86 = .ok (.ireturn, 1) := by decide +kernel
theorem dX11_count_87 : decode cX11_count 87 = .ok (.aload_n 2, 1) := by decide +kernel
theorem dX11_count_88 : decode cX11_count 88 = .ok (.getfield 140, 3) := by decide +kernel
theorem dX11_count_91 : decode cX11_count 91 = .ok (.getfield 276, 3) := by decide +kernel
theorem dX11_count_94 : decode cX11_count 94 = .ok (.ireturn, 1) := by decide +kernel
theorem dX11_count_95 : decode cX11_count 95 = .ok (.aload_n 2, 1) := by decide +kernel
theorem dX11_count_96 : decode cX11_count 96 = .ok (.getfield 140, 3) := by decide +kernel
theorem dX11_count_99 : decode cX11_count 99 = .ok (.getfield 156, 3) := by decide +kernel
theorem dX11_count_102 : decode cX11_count 102 = .ok (.ireturn, 1) := by decide +kernel
theorem dX11_count_103 : decode cX11_count 103 = .ok (.aload_n 2, 1) := by decide +kernel
theorem dX11_count_104 : decode cX11_count 104 = .ok (.getfield 140, 3) := by decide +kernel
theorem dX11_count_107 : decode cX11_count 107 = .ok (.getfield 279, 3) := by decide +kernel
theorem dX11_count_110 : decode cX11_count 110 = .ok (.ireturn, 1) := by decide +kernel
theorem dX11_count_111 : decode cX11_count 111 = .ok (.aload_n 0, 1) := by decide +kernel
theorem dX11_count_112 : decode cX11_count 112 = .ok (.getfield 22, 3) := by decide +kernel
theorem dX11_count_115 : decode cX11_count 115 = .ok (.getfield 282, 3) := by decide +kernel
theorem dX11_count_118 : decode cX11_count 118 = .ok (.ireturn, 1) := by decide +kernel
theorem dX11_count_119 : decode cX11_count 119 = .ok (.aload_n 0, 1) := by decide +kernel
theorem dX11_count_120 : decode cX11_count 120 = .ok (.getfield 22, 3) := by decide +kernel
theorem dX11_count_123 : decode cX11_count 123 = .ok (.getfield 265, 3) := by decide +kernel
theorem dX11_count_126 : decode cX11_count 126 = .ok (.ireturn, 1) := by decide +kernel
theorem dX11_count_127 : decode cX11_count 127 = .ok (.aload_n 0, 1) := by decide +kernel
theorem dX11_count_128 : decode cX11_count 128 = .ok (.getfield 60, 3) := by decide +kernel
theorem dX11_count_131 : decode cX11_count 131 = .ok (.ireturn, 1) := by decide +kernel
theorem dX11_count_132 : decode cX11_count 132 = .ok (.iconst (-1), 1) := by decide +kernel
theorem dX11_count_133 : decode cX11_count 133 = .ok (.ireturn, 1) := by decide +kernel
set_option maxRecDepth 20000 in
theorem ggX11_image_X11_isWithin : GoodIn wsX11_image wsX11_isWithin := goodIn_r _ [11] rfl (by decide +kernel)
set_option maxRecDepth 20000 in
theorem gX11_image_X11_isWithin : GoodIn wsX11_image (va_wsS RX11 148 yX11_isWithin wsX11_isWithin) := goodIn_app (goodIn_of _ (by decide +kernel)) ggX11_image_X11_isWithin
set_option maxRecDepth 20000 in
theorem ggX11_image_X8_init : GoodIn wsX11_image wsX8_init := goodIn_r _ [14, 15, 16, 17, 18, 19, 20, 21, 22, 23, 24, 25, 26, 27, 28, 29, 30, 31, 32, 33, 34, 35, 36, 37, 38, 39, 40, 41, 42, 43, 44, 45, 46, 47, 48, 49, 81, 82, 83, 84, 85, 76, 77, 78, 79, 80, 86, 87, 88, 89, 90, 91, 92, 93, 94] rfl (by decide +kernel)
set_option maxRecDepth 20000 in
theorem gX11_image_X8_init : GoodIn wsX11_image (wsX8_init) := ggX11_image_X8_init
set_option maxRecDepth 20000 in
theorem ggX11_image_X8_become : GoodIn wsX11_image wsX8_become := goodIn_r _ [53, 21, 54, 55, 23, 56, 57, 58, 59, 24, 60, 61, 62, 20, 63, 33, 64, 34, 35, 65, 36, 76, 77, 78, 79, 80, 81, 82, 83, 84, 85] rfl (by decide +kernel)
set_option maxRecDepth 20000 in
theorem gX11_image_X8_become : GoodIn wsX11_image (wsV RX11 285 RX8 yX8_become wsX8_become) := goodIn_app (goodIn_of _ (by decide +kernel)) ggX11_image_X8_become
theorem dX11_image_0 : decode cX11_image 0 = .ok (.iload_n 1, 1) := by decide +kernel
theorem dX11_image_1 : decode cX11_image 1 = .ok (.iconst 0, 1) := by decide +kernel
theorem dX11_image_2 : decode cX11_image 2 = .ok (.iconst 3, 1) := by decide +kernel
theorem dX11_image_3 : decode cX11_image 3 = .ok (.invokestatic 148, 3) := by decide +kernel
theorem dX11_image_6 : decode cX11_image 6 = .ok (.ifCond .ne 5, 3) := by decide +kernel
theorem dX11_image_9 : decode cX11_image 9 = .ok (.iconst (-1), 1) := by decide +kernel
theorem dX11_image_10 : decode cX11_image 10 = .ok (.ireturn, 1) := by decide +kernel
theorem dX11_image_11 : decode cX11_image 11 = .ok (.aload_n 0, 1) := by decide +kernel
theorem dX11_image_12 : decode cX11_image 12 = .ok (.getfield 26, 3) := by decide +kernel
theorem dX11_image_15 : decode cX11_image 15 = .ok (.iload_n 1, 1) := by decide +kernel
theorem dX11_image_16 : decode cX11_image 16 = .ok (.aaload, 1) := by decide +kernel
theorem dX11_image_17 : decode cX11_image 17 = .ok (.ifnonnull 16, 3) := by decide +kernel
theorem dX11_image_20 : decode cX11_image 20 = .ok (.aload_n 0, 1) := by decide +kernel
theorem dX11_image_21 : decode cX11_image 21 = .ok (.getfield 26, 3) := by decide +kernel
theorem dX11_image_24 : decode cX11_image 24 = .ok (.iload_n 1, 1) := by decide +kernel
theorem dX11_image_25 : decode cX11_image 25 = .ok (.new 19, 3) := by decide +kernel
theorem dX11_image_28 : decode cX11_image 28 = .ok (.dup, 1) := by decide +kernel
theorem dX11_image_29 : decode cX11_image 29 = .ok (.invokespecial 21, 3) := by decide +kernel
theorem dX11_image_32 : decode cX11_image 32 = .ok (.aastore, 1) := by decide +kernel
theorem dX11_image_33 : decode cX11_image 33 = .ok (.aload_n 0, 1) := by decide +kernel
theorem dX11_image_34 : decode cX11_image 34 = .ok (.getfield 26, 3) := by decide +kernel
theorem dX11_image_37 : decode cX11_image 37 = .ok (.iload_n 1, 1) := by decide +kernel
theorem dX11_image_38 : decode cX11_image 38 = .ok (.aaload, 1) := by decide +kernel
theorem dX11_image_39 : decode cX11_image 39 = .ok (.aload_n 0, 1) := by decide +kernel
theorem dX11_image_40 : decode cX11_image 40 = .ok (.getfield 22, 3) := by decide +kernel
theorem dX11_image_43 : decode cX11_image 43 = .ok (.invokevirtual 285, 3) := by decide +kernel
theorem dX11_image_46 : decode cX11_image 46 = .ok (.aload_n 0, 1) := by decide +kernel
theorem dX11_image_47 : decode cX11_image 47 = .ok (.getfield 22, 3) := by decide +kernel
theorem dX11_image_50 : decode cX11_image 50 = .ok (.getfield 93, 3) := by decide +kernel
theorem dX11_image_53 : decode cX11_image 53 = .ok (.getfield 119, 3) := by decide +kernel
theorem dX11_image_56 : decode cX11_image 56 = .ok (.ireturn, 1) := by decide +kernel
set_option maxRecDepth 20000 in
theorem ggX11_back_X11_isWithin : GoodIn wsX11_back wsX11_isWithin := goodIn_r _ [8] rfl (by decide +kernel)
set_option maxRecDepth 20000 in
theorem gX11_back_X11_isWithin : GoodIn wsX11_back (va_wsS RX11 148 yX11_isWithin wsX11_isWithin) := goodIn_app (goodIn_of _ (by decide +kernel)) ggX11_back_X11_isWithin
set_option maxRecDepth 20000 in
theorem ggX11_back_X8_become : GoodIn wsX11_back wsX8_become := goodIn_r _ [13, 14, 15, 16, 17, 18, 19, 20, 21, 22, 23, 24, 25, 26, 27, 28, 29, 30, 31, 32, 33, 44, 45, 46, 47, 48, 49, 50, 51, 52, 53] rfl (by decide +kernel)
set_option maxRecDepth 20000 in
theorem gX11_back_X8_become : GoodIn wsX11_back (wsV RX11 285 RX8 yX8_become wsX8_become) := goodIn_app (goodIn_of _ (by decide +kernel)) ggX11_back_X8_become
theorem dX11_back_0 : decode cX11_back 0 = .ok (.iload_n 1, 1) := by decide +kernel
theorem dX11_back_1 : decode cX11_back 1 = .ok (.iconst 0, 1) := by decide +kernel
theorem dX11_back_2 : decode cX11_back 2 = .ok (.iconst 3, 1) := by decide +kernel
theorem dX11_back_3 : decode cX11_back 3 = .ok (.invokestatic 148, 3) := by decide +kernel
theorem dX11_back_6 : decode cX11_back 6 = .ok (.ifCond .eq 12, 3) := by decide +kernel
theorem dX11_back_9 : decode cX11_back 9 = .ok (.aload_n 0, 1) := by decide +kernel
theorem dX11_back_10 : decode cX11_back 10 = .ok (.getfield 26, 3) := by decide +kernel
