theorem dX12_canMeet_47 : decode cX12_canMeet 47 = .ok (.aload_n 0, 1) := by decide +kernel
theorem dX12_canMeet_48 : decode cX12_canMeet 48 = .ok (.getfield 45, 3) := by decide +kernel
theorem dX12_canMeet_51 : decode cX12_canMeet 51 = .ok (.bipush 7, 2) := by decide +kernel
theorem dX12_canMeet_53 : decode cX12_canMeet 53 = .ok (.iaload, 1) := by decide +kernel
theorem dX12_canMeet_54 : decode cX12_canMeet 54 = .ok (.iconst 1, 1) := by decide +kernel
theorem dX12_canMeet_55 : decode cX12_canMeet 55 = .ok (.isub, 1) := by decide +kernel
theorem dX12_canMeet_56 : decode cX12_canMeet 56 = .ok (.iload_n 2, 1) := by decide +kernel
theorem dX12_canMeet_57 : decode cX12_canMeet 57 = .ok (.isub, 1) := by decide +kernel
theorem dX12_canMeet_58 : decode cX12_canMeet 58 = .ok (.iload 4, 2) := by decide +kernel
theorem dX12_canMeet_60 : decode cX12_canMeet 60 = .ok (.invokevirtual 317, 3) := by decide +kernel
theorem dX12_canMeet_63 : decode cX12_canMeet 63 = .ok (.isub, 1) := by decide +kernel
theorem dX12_canMeet_64 : decode cX12_canMeet 64 = .ok (.invokestatic 324, 3) := by decide +kernel
theorem dX12_canMeet_67 : decode cX12_canMeet 67 = .ok (.iload_n 3, 1) := by decide +kernel
theorem dX12_canMeet_68 : decode cX12_canMeet 68 = .ok (.if_icmp .le 5, 3) := by decide +kernel
theorem dX12_canMeet_71 : decode cX12_canMeet 71 = .ok (.iconst 0, 1) := by decide +kernel
theorem dX12_canMeet_72 : decode cX12_canMeet 72 = .ok (.ireturn, 1) := by decide +kernel
theorem dX12_canMeet_73 : decode cX12_canMeet 73 = .ok (.iinc 4 1, 3) := by decide +kernel
theorem dX12_canMeet_76 : decode cX12_canMeet 76 = .ok (.goto (-55), 3) := by decide +kernel
theorem dX12_canMeet_79 : decode cX12_canMeet 79 = .ok (.iconst 1, 1) := by decide +kernel
theorem dX12_canMeet_80 : decode cX12_canMeet 80 = .ok (.ireturn, 1) := by decide +kernel
set_option maxRecDepth 20000 in
theorem ggX12_mend_X12_isRiver : GoodIn wsX12_mend wsX12_isRiver := goodIn_r _ [6, 1, 25, 26, 27, 28, 29, 30, 31, 32, 33, 34, 35, 36, 37, 38, 39, 40, 41, 42, 43, 44, 45, 46, 47, 48, 49, 50, 51, 52, 53, 54, 55, 56, 57, 58, 59, 60, 61, 62, 63, 64, 65, 66] rfl (by decide +kernel)
set_option maxRecDepth 20000 in
theorem gX12_mend_X12_isRiver : GoodIn wsX12_mend (wsV RX12 331 RX12 yX12_isRiver wsX12_isRiver) := goodIn_app (goodIn_of _ (by decide +kernel)) ggX12_mend_X12_isRiver
set_option maxRecDepth 20000 in
theorem ggX12_mend_X12_in : GoodIn wsX12_mend wsX12_in := goodIn_r _ [9] rfl (by decide +kernel)
set_option maxRecDepth 20000 in
theorem gX12_mend_X12_in : GoodIn wsX12_mend (va_wsS RX12 131 yX12_in wsX12_in) := goodIn_app (goodIn_of _ (by decide +kernel)) ggX12_mend_X12_in
set_option maxRecDepth 20000 in
theorem ggX12_mend_X12_canMeet : GoodIn wsX12_mend wsX12_canMeet := goodIn_r _ [13, 1, 14, 15, 16, 5, 17, 18, 19, 20, 21, 22, 23, 24, 25, 26, 27, 28, 29, 30, 31, 32, 33, 34, 35, 36, 37, 38, 39, 40, 41, 42, 43, 44, 45, 46, 47, 48, 49, 50, 51, 52, 53, 54, 55, 56, 57, 58, 59, 60, 61, 62, 63, 64, 65, 66] rfl (by decide +kernel)
set_option maxRecDepth 20000 in
theorem gX12_mend_X12_canMeet : GoodIn wsX12_mend (wsV RX12 470 RX12 yX12_canMeet wsX12_canMeet) := goodIn_app (goodIn_of _ (by decide +kernel)) ggX12_mend_X12_canMeet
theorem dX12_mend_0 : decode cX12_mend 0 = .ok (.aload_n 0, 1) := by decide +kernel
theorem dX12_mend_1 : decode cX12_mend 1 = .ok (.invokevirtual 331, 3) := by decide +kernel
theorem dX12_mend_4 : decode cX12_mend 4 = .ok (.ifCond .eq 13, 3) := by decide +kernel
theorem dX12_mend_7 : decode cX12_mend 7 = .ok (.iload_n 1, 1) := by decide +kernel
theorem dX12_mend_8 : decode cX12_mend 8 = .ok (.i2l, 1) := by decide +kernel
theorem dX12_mend_9 : decode cX12_mend 9 = .ok (.lconst 0, 1) := by decide +kernel
theorem dX12_mend_10 : decode cX12_mend 10 = .ok (.lconst 1, 1) := by decide +kernel
theorem dX12_mend_11 : decode cX12_mend 11 = .ok (.invokestatic 131, 3) := by decide +kernel
theorem dX12_mend_14 : decode cX12_mend 14 = .ok (.ifCond .ne 5, 3) := by decide +kernel
theorem dX12_mend_17 : decode cX12_mend 17 = .ok (.iconst (-1), 1) := by decide +kernel
theorem dX12_mend_18 : decode cX12_mend 18 = .ok (.ireturn, 1) := by decide +kernel
theorem dX12_mend_19 : decode cX12_mend 19 = .ok (.iconst 0, 1) := by decide +kernel
theorem dX12_mend_20 : decode cX12_mend 20 = .ok (.istore_n 2, 1) := by decide +kernel
theorem dX12_mend_21 : decode cX12_mend 21 = .ok (.iload_n 2, 1) := by decide +kernel
theorem dX12_mend_22 : decode cX12_mend 22 = .ok (.aload_n 0, 1) := by decide +kernel
theorem dX12_mend_23 : decode cX12_mend 23 = .ok (.getfield 45, 3) := by decide +kernel
theorem dX12_mend_26 : decode cX12_mend 26 = .ok (.bipush 6, 2) := by decide +kernel
theorem dX12_mend_28 : decode cX12_mend 28 = .ok (.iaload, 1) := by decide +kernel
theorem dX12_mend_29 : decode cX12_mend 29 = .ok (.aload_n 0, 1) := by decide +kernel
theorem dX12_mend_30 : decode cX12_mend 30 = .ok (.getfield 45, 3) := by decide +kernel
theorem dX12_mend_33 : decode cX12_mend 33 = .ok (.bipush 7, 2) := by decide +kernel
theorem dX12_mend_35 : decode cX12_mend 35 = .ok (.iaload, 1) := by decide +kernel
theorem dX12_mend_36 : decode cX12_mend 36 = .ok (.iadd, 1) := by decide +kernel
theorem dX12_mend_37 : decode cX12_mend 37 = .ok (.if_icmp .gt 71, 3) := by decide +kernel
theorem dX12_mend_40 : decode cX12_mend 40 = .ok (.iconst 0, 1) := by decide +kernel
theorem dX12_mend_41 : decode cX12_mend 41 = .ok (.istore_n 3, 1) := by decide +kernel
theorem dX12_mend_42 : decode cX12_mend 42 = .ok (.iload_n 3, 1) := by decide +kernel
theorem dX12_mend_43 : decode cX12_mend 43 = .ok (.iload_n 2, 1) := by decide +kernel
theorem dX12_mend_44 : decode cX12_mend 44 = .ok (.if_icmp .gt 58, 3) := by decide +kernel
theorem dX12_mend_47 : decode cX12_mend 47 = .ok (.iload_n 2, 1) := by decide +kernel
theorem dX12_mend_48 : decode cX12_mend 48 = .ok (.iload_n 3, 1) := by decide +kernel
theorem dX12_mend_49 : decode cX12_mend 49 = .ok (.isub, 1) := by decide +kernel
theorem dX12_mend_50 : decode cX12_mend 50 = .ok (.istore 4, 2) := by decide +kernel
theorem dX12_mend_52 : decode cX12_mend 52 = .ok (.iload_n 3, 1) := by decide +kernel
theorem dX12_mend_53 : decode cX12_mend 53 = .ok (.aload_n 0, 1) := by decide +kernel
theorem dX12_mend_54 : decode cX12_mend 54 = .ok (.getfield 45, 3) := by decide +kernel
theorem dX12_mend_57 : decode cX12_mend 57 = .ok (.bipush 6, 2) := by decide +kernel
theorem dX12_mend_59 : decode cX12_mend 59 = .ok (.iaload, 1) := by decide +kernel
theorem dX12_mend_60 : decode cX12_mend 60 = .ok (.if_icmp .gt 36, 3) := by decide +kernel
theorem dX12_mend_63 : decode cX12_mend 63 = .ok (.iload 4, 2) := by decide +kernel
theorem dX12_mend_65 : decode cX12_mend 65 = .ok (.aload_n 0, 1) := by decide +kernel
theorem dX12_mend_66 : decode cX12_mend 66 = .ok (.getfield 45, 3) := by decide +kernel
theorem dX12_mend_69 : decode cX12_mend 69 = .ok (.bipush 7, 2) := by decide +kernel
theorem dX12_mend_71 : decode cX12_mend 71 = .ok (.iaload, 1) := by decide +kernel
theorem dX12_mend_72 : decode cX12_mend 72 = .ok (.if_icmp .gt 24, 3) := by decide +kernel
theorem dX12_mend_75 : decode cX12_mend 75 = .ok (.aload_n 0, 1) := by decide +kernel
theorem dX12_mend_76 : decode cX12_mend 76 = .ok (.iload_n 3, 1) := by decide +kernel
theorem dX12_mend_77 : decode cX12_mend 77 = .ok (.iload 4, 2) := by decide +kernel
theorem dX12_mend_79 : decode cX12_mend 79 = .ok (.invokevirtual 470, 3) := by decide +kernel
theorem dX12_mend_82 : decode cX12_mend 82 = .ok (.ifCond .eq 14, 3) := by decide +kernel
theorem dX12_mend_85 : decode cX12_mend 85 = .ok (.iload_n 1, 1) := by decide +kernel
theorem dX12_mend_86 : decode cX12_mend 86 = .ok (.ifCond .ne 7, 3) := by decide +kernel
theorem dX12_mend_89 : decode cX12_mend 89 = .ok (.iload_n 3, 1) := by decide +kernel
theorem dX12_mend_90 : decode cX12_mend 90 = .ok (.goto 5, 3) := by decide +kernel
theorem dX12_mend_93 : decode cX12_mend 93 = .ok (.iload 4, 2) := by decide +kernel
theorem dX12_mend_95 : decode cX12_mend 95 = .ok (.ireturn, 1) := by decide +kernel
theorem dX12_mend_96 : decode cX12_mend 96 = .ok (.iinc 3 1, 3) := by decide +kernel
theorem dX12_mend_99 : decode cX12_mend 99 = .ok (.goto (-57), 3) := by decide +kernel
theorem dX12_mend_102 : decode cX12_mend 102 = .ok (.iinc 2 1, 3) := by decide +kernel
theorem dX12_mend_105 : decode cX12_mend 105 = .ok (.goto (-84), 3) := by decide +kernel
theorem dX12_mend_108 : decode cX12_mend 108 = .ok (.bipush (-2), 2) := by decide +kernel
theorem dX12_mend_110 : decode cX12_mend 110 = .ok (.ireturn, 1) := by decide +kernel
set_option maxRecDepth 20000 in
theorem ggX12_ruin_X12_isRiver : GoodIn wsX12_ruin wsX12_isRiver := goodIn_r _ [11, 5, 18, 19, 20, 21, 22, 23, 24, 25, 26, 27, 28, 29, 30, 31, 32, 33, 34, 35, 36, 37, 38, 39, 40, 41, 42, 43, 44, 45, 46, 47, 48, 49, 50, 51, 52, 53, 54, 55, 56, 57, 58, 59] rfl (by decide +kernel)
set_option maxRecDepth 20000 in
theorem gX12_ruin_X12_isRiver : GoodIn wsX12_ruin (wsV RX12 331 RX12 yX12_isRiver wsX12_isRiver) := goodIn_app (goodIn_of _ (by decide +kernel)) ggX12_ruin_X12_isRiver
set_option maxRecDepth 20000 in
theorem ggX12_ruin_X12_isSide : GoodIn wsX12_ruin wsX12_isSide := goodIn_r _ [14] rfl (by decide +kernel)
set_option maxRecDepth 20000 in
theorem gX12_ruin_X12_isSide : GoodIn wsX12_ruin (va_wsS RX12 334 yX12_isSide wsX12_isSide) := goodIn_app (goodIn_of _ (by decide +kernel)) ggX12_ruin_X12_isSide
set_option maxRecDepth 20000 in
theorem ggX12_ruin_X12_in : GoodIn wsX12_ruin wsX12_in := goodIn_r _ [17] rfl (by decide +kernel)
set_option maxRecDepth 20000 in
theorem gX12_ruin_X12_in : GoodIn wsX12_ruin (va_wsS RX12 131 yX12_in wsX12_in) := goodIn_app (goodIn_of _ (by decide +kernel)) ggX12_ruin_X12_in
theorem dX12_ruin_0 : decode cX12_ruin 0 = .ok (.aload_n 0, 1) := by decide +kernel
theorem dX12_ruin_1 : decode cX12_ruin 1 = .ok (.invokevirtual 331, 3) := by decide +kernel
theorem dX12_ruin_4 : decode cX12_ruin 4 = .ok (.ifCond .eq 42, 3) := by decide +kernel
theorem dX12_ruin_7 : decode cX12_ruin 7 = .ok (.iload_n 1, 1) := by decide +kernel
theorem dX12_ruin_8 : decode cX12_ruin 8 = .ok (.invokestatic 334, 3) := by decide +kernel
theorem dX12_ruin_11 : decode cX12_ruin 11 = .ok (.ifCond .eq 35, 3) := by decide +kernel
theorem dX12_ruin_14 : decode cX12_ruin 14 = .ok (.iload_n 2, 1) := by decide +kernel
theorem dX12_ruin_15 : decode cX12_ruin 15 = .ok (.i2l, 1) := by decide +kernel
theorem dX12_ruin_16 : decode cX12_ruin 16 = .ok (.ldc2_w 473, 3) := by decide +kernel
theorem dX12_ruin_19 : decode cX12_ruin 19 = .ok (.ldc2_w 475, 3) := by decide +kernel
theorem dX12_ruin_22 : decode cX12_ruin 22 = .ok (.invokestatic 131, 3) := by decide +kernel
theorem dX12_ruin_25 : decode cX12_ruin 25 = .ok (.ifCond .eq 21, 3) := by decide +kernel
theorem dX12_ruin_28 : decode cX12_ruin 28 = .ok (.iload_n 2, 1) := by decide +kernel
theorem dX12_ruin_29 : decode cX12_ruin 29 = .ok (.ifCond .lt 19, 3) := by decide +kernel
theorem dX12_ruin_32 : decode cX12_ruin 32 = .ok (.iload_n 3, 1) := by decide +kernel
theorem dX12_ruin_33 : decode cX12_ruin 33 = .ok (.i2l, 1) := by decide +kernel
theorem dX12_ruin_34 : decode cX12_ruin 34 = .ok (.ldc2_w 477, 3) := by decide +kernel
theorem dX12_ruin_37 : decode cX12_ruin 37 = .ok (.ldc2_w 479, 3) := by decide +kernel
theorem dX12_ruin_40 : decode cX12_ruin 40 = .ok (.invokestatic 131, 3) := by decide +kernel
theorem dX12_ruin_43 : decode cX12_ruin 43 = .ok (.ifCond .ne 5, 3) := by decide +kernel
theorem dX12_ruin_46 : decode cX12_ruin 46 = .ok (.iconst 0, 1) := by decide +kernel
theorem dX12_ruin_47 : decode cX12_ruin 47 = .ok (.ireturn, 1) := by decide +kernel
theorem dX12_ruin_48 : decode cX12_ruin 48 = .ok (.iload_n 2, 1) := by decide +kernel
theorem dX12_ruin_49 : decode cX12_ruin 49 = .ok (.ifCond .ge 34, 3) := by decide +kernel
theorem dX12_ruin_52 : decode cX12_ruin 52 = .ok (.iconst 0, 1) := by decide +kernel
theorem dX12_ruin_53 : decode cX12_ruin 53 = .ok (.istore 4, 2) := by decide +kernel
theorem dX12_ruin_55 : decode cX12_ruin 55 = .ok (.iload 4, 2) := by decide +kernel
theorem dX12_ruin_57 : decode cX12_ruin 57 = .ok (.bipush 80, 2) := by decide +kernel
theorem dX12_ruin_59 : decode cX12_ruin 59 = .ok (.if_icmp .ge 21, 3) := by decide +kernel
theorem dX12_ruin_62 : decode cX12_ruin 62 = .ok (.aload_n 0, 1) := by decide +kernel
theorem dX12_ruin_63 : decode cX12_ruin 63 = .ok (.getfield 45, 3) := by decide +kernel
theorem dX12_ruin_66 : decode cX12_ruin 66 = .ok (.bipush 46, 2) := by decide +kernel
theorem dX12_ruin_68 : decode cX12_ruin 68 = .ok (.iload 4, 2) := by decide +kernel
theorem dX12_ruin_70 : decode cX12_ruin 70 = .ok (.iadd, 1) := by decide +kernel
theorem dX12_ruin_71 : decode cX12_ruin 71 = .ok (.ldc 173, 2) := by decide +kernel
theorem dX12_ruin_73 : decode cX12_ruin 73 = .ok (.iastore, 1) := by decide +kernel
theorem dX12_ruin_74 : decode cX12_ruin 74 = .ok (.iinc 4 1, 3) := by decide +kernel
theorem dX12_ruin_77 : decode cX12_ruin 77 = .ok (.goto (-22), 3) := by decide +kernel
theorem dX12_ruin_80 : decode cX12_ruin 80 = .ok (.goto 18, 3) := by decide +kernel
theorem dX12_ruin_83 : decode cX12_ruin 83 = .ok (.aload_n 0, 1) := by decide +kernel
theorem dX12_ruin_84 : decode cX12_ruin 84 = .ok (.getfield 45, 3) := by decide +kernel
theorem dX12_ruin_87 : decode cX12_ruin 87 = .ok (.bipush 46, 2) := by decide +kernel
theorem dX12_ruin_89 : decode cX12_ruin 89 = .ok (.bipush 40, 2) := by decide +kernel
theorem dX12_ruin_91 : decode cX12_ruin 91 = .ok (.iload_n 1, 1) := by decide +kernel
theorem dX12_ruin_92 : decode cX12_ruin 92 = .ok (.imul, 1) := by decide +kernel
theorem dX12_ruin_93 : decode cX12_ruin 93 = .ok (.iadd, 1) := by decide +kernel
theorem dX12_ruin_94 : decode cX12_ruin 94 = .ok (.iload_n 2, 1) := by decide +kernel
theorem dX12_ruin_95 : decode cX12_ruin 95 = .ok (.iadd, 1) := by decide +kernel
theorem dX12_ruin_96 : decode cX12_ruin 96 = .ok (.iload_n 3, 1) := by decide +kernel
theorem dX12_ruin_97 : decode cX12_ruin 97 = .ok (.iastore, 1) := by decide +kernel
theorem dX12_ruin_98 : decode cX12_ruin 98 = .ok (.iconst 1, 1) := by decide +kernel
theorem dX12_ruin_99 : decode cX12_ruin 99 = .ok (.ireturn, 1) := by decide +kernel
set_option maxRecDepth 20000 in
theorem ggX12_areRuins_X12_yardOf : GoodIn wsX12_areRuins wsX12_yardOf := goodIn_r _ [7, 1, 8, 9, 10, 11, 12, 13, 14, 15, 16, 17, 18, 19, 20, 21, 22, 23, 24, 25, 26, 27, 28, 29, 30, 31, 32, 33, 34, 35, 36, 37, 38, 39, 40, 41, 42, 43, 44, 45, 46, 47, 48, 49] rfl (by decide +kernel)
set_option maxRecDepth 20000 in
theorem gX12_areRuins_X12_yardOf : GoodIn wsX12_areRuins (wsV RX12 317 RX12 yX12_yardOf wsX12_yardOf) := goodIn_app (goodIn_of _ (by decide +kernel)) ggX12_areRuins_X12_yardOf
theorem dX12_areRuins_0 : decode cX12_areRuins 0 = .ok (.iconst 0, 1) := by decide +kernel
theorem dX12_areRuins_1 : decode cX12_areRuins 1 = .ok (.istore_n 1, 1) := by decide +kernel
theorem dX12_areRuins_2 : decode cX12_areRuins 2 = .ok (.iload_n 1, 1) := by decide +kernel
theorem dX12_areRuins_3 : decode cX12_areRuins 3 = .ok (.iconst 2, 1) := by decide +kernel
theorem dX12_areRuins_4 : decode cX12_areRuins 4 = .ok (.if_icmp .ge 70, 3) := by decide +kernel
theorem dX12_areRuins_7 : decode cX12_areRuins 7 = .ok (.iconst 0, 1) := by decide +kernel
theorem dX12_areRuins_8 : decode cX12_areRuins 8 = .ok (.istore_n 2, 1) := by decide +kernel
theorem dX12_areRuins_9 : decode cX12_areRuins 9 = .ok (.iload_n 2, 1) := by decide +kernel
theorem dX12_areRuins_10 : decode cX12_areRuins 10 = .ok (.bipush 40, 2) := by decide +kernel
theorem dX12_areRuins_12 : decode cX12_areRuins 12 = .ok (.if_icmp .ge 56, 3) := by decide +kernel
theorem dX12_areRuins_15 : decode cX12_areRuins 15 = .ok (.aload_n 0, 1) := by decide +kernel
theorem dX12_areRuins_16 : decode cX12_areRuins 16 = .ok (.getfield 45, 3) := by decide +kernel
theorem dX12_areRuins_19 : decode cX12_areRuins 19 = .ok (.bipush 46, 2) := by decide +kernel
theorem dX12_areRuins_21 : decode cX12_areRuins 21 = .ok (.bipush 40, 2) := by decide +kernel
theorem dX12_areRuins_23 : decode cX12_areRuins 23 = .ok (.iload_n 1, 1) := by decide +kernel
theorem dX12_areRuins_24 : decode cX12_areRuins 24 = .ok (.imul, 1) := by decide +kernel
theorem dX12_areRuins_25 : decode cX12_areRuins 25 = .ok (.iadd, 1) := by decide +kernel
theorem dX12_areRuins_26 : decode cX12_areRuins 26 = .ok (.iload_n 2, 1) := by decide +kernel
theorem dX12_areRuins_27 : decode cX12_areRuins 27 = .ok (.iadd, 1) := by decide +kernel
theorem dX12_areRuins_28 : decode cX12_areRuins 28 = .ok (.iaload, 1) := by decide +kernel
theorem dX12_areRuins_29 : decode cX12_areRuins 29 = .ok (.istore_n 3, 1) := by decide +kernel
theorem dX12_areRuins_30 : decode cX12_areRuins 30 = .ok (.iload_n 3, 1) := by decide +kernel
theorem dX12_areRuins_31 : decode cX12_areRuins 31 = .ok (.ldc 173, 2) := by decide +kernel
theorem dX12_areRuins_33 : decode cX12_areRuins 33 = .ok (.if_icmp .eq 29, 3) := by decide +kernel
theorem dX12_areRuins_36 : decode cX12_areRuins 36 = .ok (.iload_n 2, 1) := by decide +kernel
theorem dX12_areRuins_37 : decode cX12_areRuins 37 = .ok (.aload_n 0, 1) := by decide +kernel
theorem dX12_areRuins_38 : decode cX12_areRuins 38 = .ok (.getfield 45, 3) := by decide +kernel
theorem dX12_areRuins_41 : decode cX12_areRuins 41 = .ok (.bipush 6, 2) := by decide +kernel
theorem dX12_areRuins_43 : decode cX12_areRuins 43 = .ok (.iload_n 1, 1) := by decide +kernel
theorem dX12_areRuins_44 : decode cX12_areRuins 44 = .ok (.iadd, 1) := by decide +kernel
theorem dX12_areRuins_45 : decode cX12_areRuins 45 = .ok (.iaload, 1) := by decide +kernel
theorem dX12_areRuins_46 : decode cX12_areRuins 46 = .ok (.if_icmp .ge 14, 3) := by decide +kernel
theorem dX12_areRuins_49 : decode cX12_areRuins 49 = .ok (.aload_n 0, 1) := by decide +kernel
theorem dX12_areRuins_50 : decode cX12_areRuins 50 = .ok (.iload_n 1, 1) := by decide +kernel
theorem dX12_areRuins_51 : decode cX12_areRuins 51 = .ok (.iload_n 2, 1) := by decide +kernel
theorem dX12_areRuins_52 : decode cX12_areRuins 52 = .ok (.iconst 0, 1) := by decide +kernel
theorem dX12_areRuins_53 : decode cX12_areRuins 53 = .ok (.invokevirtual 317, 3) := by decide +kernel
theorem dX12_areRuins_56 : decode cX12_areRuins 56 = .ok (.iload_n 3, 1) := by decide +kernel
theorem dX12_areRuins_57 : decode cX12_areRuins 57 = .ok (.if_icmp .eq 5, 3) := by decide +kernel
theorem dX12_areRuins_60 : decode cX12_areRuins 60 = .ok (.iconst 0, 1) := by decide +kernel
theorem dX12_areRuins_61 : decode cX12_areRuins 61 = .ok (.ireturn, 1) := by decide +kernel
theorem dX12_areRuins_62 : decode cX12_areRuins 62 = .ok (.iinc 2 1, 3) := by decide +kernel
theorem dX12_areRuins_65 : decode cX12_areRuins 65 = .ok (.goto (-56), 3) := by decide +kernel
theorem dX12_areRuins_68 : decode cX12_areRuins 68 = .ok (.iinc 1 1, 3) := by decide +kernel
theorem dX12_areRuins_71 : decode cX12_areRuins 71 = .ok (.goto (-69), 3) := by decide +kernel
theorem dX12_areRuins_74 : decode cX12_areRuins 74 = .ok (.iconst 1, 1) := by decide +kernel
theorem dX12_areRuins_75 : decode cX12_areRuins 75 = .ok (.ireturn, 1) := by decide +kernel
theorem dX12_figure_0 : decode cX12_figure 0 = .ok (.iload_n 0, 1) := by decide +kernel
theorem dX12_figure_1 : decode cX12_figure 1 = .ok (.istore_n 2, 1) := by decide +kernel
theorem dX12_figure_2 : decode cX12_figure 2 = .ok (.iconst 0, 1) := by decide +kernel
theorem dX12_figure_3 : decode cX12_figure 3 = .ok (.istore_n 3, 1) := by decide +kernel
theorem dX12_figure_4 : decode cX12_figure 4 = .ok (.iload_n 3, 1) := by decide +kernel
theorem dX12_figure_5 : decode cX12_figure 5 = .ok (.iload_n 1, 1) := by decide +kernel
theorem dX12_figure_6 : decode cX12_figure 6 = .ok (.if_icmp .ge 13, 3) := by decide +kernel
theorem dX12_figure_9 : decode cX12_figure 9 = .ok (.iload_n 2, 1) := by decide +kernel
theorem dX12_figure_10 : decode cX12_figure 10 = .ok (.iconst 3, 1) := by decide +kernel
theorem dX12_figure_11 : decode cX12_figure 11 = .ok (.idiv, 1) := by decide +kernel
theorem dX12_figure_12 : decode cX12_figure 12 = .ok (.istore_n 2, 1) := by decide +kernel
theorem dX12_figure_13 : decode cX12_figure 13 = .ok (.iinc 3 1, 3) := by decide +kernel
theorem dX12_figure_16 : decode cX12_figure 16 = .ok (.goto (-12), 3) := by decide +kernel
theorem dX12_figure_19 : decode cX12_figure 19 = .ok (.iload_n 2, 1) := by decide +kernel
theorem dX12_figure_20 : decode cX12_figure 20 = .ok (.iconst 3, 1) := by decide +kernel
theorem dX12_figure_21 : decode cX12_figure 21 = .ok (.irem, 1) := by decide +kernel
theorem dX12_figure_22 : decode cX12_figure 22 = .ok (.iconst 1, 1) := by decide +kernel
theorem dX12_figure_23 : decode cX12_figure 23 = .ok (.isub, 1) := by decide +kernel
theorem dX12_figure_24 : decode cX12_figure 24 = .ok (.ireturn, 1) := by decide +kernel
set_option maxRecDepth 20000 in
theorem ggX12_erred_X12_canAsk : GoodIn wsX12_erred wsX12_canAsk := goodIn_r _ [9, 10, 11, 12, 8, 13, 14, 15, 16, 17, 18, 19, 131, 132, 133, 134, 135, 136, 137, 138, 139, 140, 141, 142, 143, 144, 145, 146, 147, 148, 149, 150, 151, 152, 153, 154, 155, 156, 157, 158, 159, 160, 161, 162, 163, 164, 165, 166, 167, 168, 169, 170, 171, 172] rfl (by decide +kernel)
set_option maxRecDepth 20000 in
theorem gX12_erred_X12_canAsk : GoodIn wsX12_erred (wsV RX12 402 RX12 yX12_canAsk wsX12_canAsk) := goodIn_app (goodIn_of _ (by decide +kernel)) ggX12_erred_X12_canAsk
set_option maxRecDepth 20000 in
theorem ggX12_erred_X12_in : GoodIn wsX12_erred wsX12_in := goodIn_r _ [22] rfl (by decide +kernel)
set_option maxRecDepth 20000 in
theorem gX12_erred_X12_in : GoodIn wsX12_erred (va_wsS RX12 131 yX12_in wsX12_in) := goodIn_app (goodIn_of _ (by decide +kernel)) ggX12_erred_X12_in
set_option maxRecDepth 20000 in
theorem ggX12_erred_X12_keeps : GoodIn wsX12_erred wsX12_keeps := goodIn_r _ [26, 27, 14, 131, 132, 133, 134, 135, 136, 137, 138, 139, 140, 141, 142, 143, 144, 145, 146, 147, 148, 149, 150, 151, 152, 153, 154, 155, 156, 157, 158, 159, 160, 161, 162, 163, 164, 165, 166, 167, 168, 169, 170, 171, 172] rfl (by decide +kernel)
set_option maxRecDepth 20000 in
theorem gX12_erred_X12_keeps : GoodIn wsX12_erred (wsV RX12 420 RX12 yX12_keeps wsX12_keeps) := goodIn_app (goodIn_of _ (by decide +kernel)) ggX12_erred_X12_keeps
set_option maxRecDepth 20000 in
theorem ggX12_erred_X12_isMet : GoodIn wsX12_erred wsX12_isMet := goodIn_r _ [31, 32, 33, 34, 8, 35, 14, 131, 132, 133, 134, 135, 136, 137, 138, 139, 140, 141, 142, 143, 144, 145, 146, 147, 148, 149, 150, 151, 152, 153, 154, 155, 156, 157, 158, 159, 160, 161, 162, 163, 164, 165, 166, 167, 168, 169, 170, 171, 172] rfl (by decide +kernel)
set_option maxRecDepth 20000 in
theorem gX12_erred_X12_isMet : GoodIn wsX12_erred (wsV RX12 393 RX12 yX12_isMet wsX12_isMet) := goodIn_app (goodIn_of _ (by decide +kernel)) ggX12_erred_X12_isMet
set_option maxRecDepth 20000 in
theorem ggX12_erred_X12_figure : GoodIn wsX12_erred wsX12_figure := goodIn_r _ [38] rfl (by decide +kernel)
set_option maxRecDepth 20000 in
theorem gX12_erred_X12_figure : GoodIn wsX12_erred (va_wsS RX12 481 yX12_figure wsX12_figure) := goodIn_app (goodIn_of _ (by decide +kernel)) ggX12_erred_X12_figure
set_option maxRecDepth 20000 in
theorem ggX12_erred_X12_passes : GoodIn wsX12_erred wsX12_passes := goodIn_r _ [42, 14, 43, 44, 45, 8, 46, 47, 48, 49, 50, 51, 52, 53, 54, 55, 56, 57, 58, 59, 60, 61, 62, 4, 32, 33, 34, 35, 63, 64, 65, 66, 67, 68, 69, 70, 71, 72, 73, 74, 75, 76, 77, 78, 79, 80, 81, 82, 83, 84, 85, 86, 87, 88, 89, 90, 91, 92, 93, 94, 95, 96, 97, 98, 99, 100, 101, 102, 103, 104, 105, 106, 107, 108, 109, 110, 111, 112, 113, 114, 115, 116, 117, 118, 119, 120, 121, 131, 132, 133, 134, 135, 136, 137, 138, 139, 140, 141, 142, 143, 144, 145, 146, 147, 148, 149, 150, 151, 152, 153, 154, 155, 156, 157, 158, 159, 160, 161, 162, 163, 164, 165, 166, 167, 168, 169, 170, 171, 172] rfl (by decide +kernel)
set_option maxRecDepth 20000 in
theorem gX12_erred_X12_passes : GoodIn wsX12_erred (wsV RX12 396 RX12 yX12_passes wsX12_passes) := goodIn_app (goodIn_of _ (by decide +kernel)) ggX12_erred_X12_passes
set_option maxRecDepth 20000 in
theorem ggX12_erred_X12_areRuins : GoodIn wsX12_erred wsX12_areRuins := goodIn_r _ [125, 14, 126, 55, 56, 57, 8, 58, 131, 132, 133, 134, 135, 136, 137, 138, 139, 140, 141, 142, 143, 144, 145, 146, 147, 148, 149, 150, 151, 152, 153, 154, 155, 156, 157, 158, 159, 160, 161, 162, 163, 164, 165, 166, 167, 168, 169, 170, 171, 172] rfl (by decide +kernel)
set_option maxRecDepth 20000 in
theorem gX12_erred_X12_areRuins : GoodIn wsX12_erred (wsV RX12 484 RX12 yX12_areRuins wsX12_areRuins) := goodIn_app (goodIn_of _ (by decide +kernel)) ggX12_erred_X12_areRuins
set_option maxRecDepth 20000 in
theorem ggX12_erred_X12_putsBack : GoodIn wsX12_erred wsX12_putsBack := goodIn_r _ [130, 14, 27, 131, 132, 133, 134, 135, 136, 137, 138, 139, 140, 141, 142, 143, 144, 145, 146, 147, 148, 149, 150, 151, 152, 153, 154, 155, 156, 157, 158, 159, 160, 161, 162, 163, 164, 165, 166, 167, 168, 169, 170, 171, 172] rfl (by decide +kernel)
set_option maxRecDepth 20000 in
theorem gX12_erred_X12_putsBack : GoodIn wsX12_erred (wsV RX12 423 RX12 yX12_putsBack wsX12_putsBack) := goodIn_app (goodIn_of _ (by decide +kernel)) ggX12_erred_X12_putsBack
theorem dX12_erred_0 : decode cX12_erred 0 = .ok (.aload_n 0, 1) := by decide +kernel
theorem dX12_erred_1 : decode cX12_erred 1 = .ok (.iload_n 1, 1) := by decide +kernel
theorem dX12_erred_2 : decode cX12_erred 2 = .ok (.iload_n 2, 1) := by decide +kernel
theorem dX12_erred_3 : decode cX12_erred 3 = .ok (.invokevirtual 402, 3) := by decide +kernel
theorem dX12_erred_6 : decode cX12_erred 6 = .ok (.ifCond .eq 42, 3) := by decide +kernel
theorem dX12_erred_9 : decode cX12_erred 9 = .ok (.iload_n 3, 1) := by decide +kernel
theorem dX12_erred_10 : decode cX12_erred 10 = .ok (.i2l, 1) := by decide +kernel
theorem dX12_erred_11 : decode cX12_erred 11 = .ok (.lconst 1, 1) := by decide +kernel
theorem dX12_erred_12 : decode cX12_erred 12 = .ok (.ldc2_w 468, 3) := by decide +kernel
theorem dX12_erred_15 : decode cX12_erred 15 = .ok (.invokestatic 131, 3) := by decide +kernel
theorem dX12_erred_18 : decode cX12_erred 18 = .ok (.ifCond .eq 30, 3) := by decide +kernel
theorem dX12_erred_21 : decode cX12_erred 21 = .ok (.iload 4, 2) := by decide +kernel
theorem dX12_erred_23 : decode cX12_erred 23 = .ok (.i2l, 1) := by decide +kernel
theorem dX12_erred_24 : decode cX12_erred 24 = .ok (.lconst 1, 1) := by decide +kernel
theorem dX12_erred_25 : decode cX12_erred 25 = .ok (.ldc2_w 355, 3) := by decide +kernel
theorem dX12_erred_28 : decode cX12_erred 28 = .ok (.invokestatic 131, 3) := by decide +kernel
theorem dX12_erred_31 : decode cX12_erred 31 = .ok (.ifCond .eq 17, 3) := by decide +kernel
theorem dX12_erred_34 : decode cX12_erred 34 = .ok (.iload 5, 2) := by decide +kernel
theorem dX12_erred_36 : decode cX12_erred 36 = .ok (.i2l, 1) := by decide +kernel
theorem dX12_erred_37 : decode cX12_erred 37 = .ok (.lconst 0, 1) := by decide +kernel
theorem dX12_erred_38 : decode cX12_erred 38 = .ok (.iconst 2, 1) := by decide +kernel
theorem dX12_erred_39 : decode cX12_erred 39 = .ok (.iload_n 3, 1) := by decide +kernel
theorem dX12_erred_40 : decode cX12_erred 40 = .ok (.imul, 1) := by decide +kernel
theorem dX12_erred_41 : decode cX12_erred 41 = .ok (.i2l, 1) := by decide +kernel
theorem dX12_erred_42 : decode cX12_erred 42 = .ok (.invokestatic 131, 3) := by decide +kernel
theorem dX12_erred_45 : decode cX12_erred 45 = .ok (.ifCond .ne 5, 3) := by decide +kernel
theorem dX12_erred_48 : decode cX12_erred 48 = .ok (.iconst (-1), 1) := by decide +kernel
theorem dX12_erred_49 : decode cX12_erred 49 = .ok (.ireturn, 1) := by decide +kernel
theorem dX12_erred_50 : decode cX12_erred 50 = .ok (.iconst 1, 1) := by decide +kernel
theorem dX12_erred_51 : decode cX12_erred 51 = .ok (.istore 6, 2) := by decide +kernel
theorem dX12_erred_53 : decode cX12_erred 53 = .ok (.iconst 0, 1) := by decide +kernel
theorem dX12_erred_54 : decode cX12_erred 54 = .ok (.istore 7, 2) := by decide +kernel
theorem dX12_erred_56 : decode cX12_erred 56 = .ok (.iload 7, 2) := by decide +kernel
theorem dX12_erred_58 : decode cX12_erred 58 = .ok (.iload_n 3, 1) := by decide +kernel
theorem dX12_erred_59 : decode cX12_erred 59 = .ok (.if_icmp .ge 16, 3) := by decide +kernel
theorem dX12_erred_62 : decode cX12_erred 62 = .ok (.iload 6, 2) := by decide +kernel
theorem dX12_erred_64 : decode cX12_erred 64 = .ok (.bipush 9, 2) := by decide +kernel
theorem dX12_erred_66 : decode cX12_erred 66 = .ok (.imul, 1) := by decide +kernel
theorem dX12_erred_67 : decode cX12_erred 67 = .ok (.istore 6, 2) := by decide +kernel
theorem dX12_erred_69 : decode cX12_erred 69 = .ok (.iinc 7 1, 3) := by decide +kernel
theorem dX12_erred_72 : decode cX12_erred 72 = .ok (.goto (-16), 3) := by decide +kernel
theorem dX12_erred_75 : decode cX12_erred 75 = .ok (.iconst 0, 1) := by decide +kernel
theorem dX12_erred_76 : decode cX12_erred 76 = .ok (.istore 7, 2) := by decide +kernel
theorem dX12_erred_78 : decode cX12_erred 78 = .ok (.iconst 0, 1) := by decide +kernel
theorem dX12_erred_79 : decode cX12_erred 79 = .ok (.istore 8, 2) := by decide +kernel
theorem dX12_erred_81 : decode cX12_erred 81 = .ok (.iload 8, 2) := by decide +kernel
theorem dX12_erred_83 : decode cX12_erred 83 = .ok (.bipush 8, 2) := by decide +kernel
theorem dX12_erred_85 : decode cX12_erred 85 = .ok (.if_icmp .ge 17, 3) := by decide +kernel
theorem dX12_erred_88 : decode cX12_erred 88 = .ok (.aload_n 0, 1) := by decide +kernel
theorem dX12_erred_89 : decode cX12_erred 89 = .ok (.getfield 82, 3) := by decide +kernel
theorem dX12_erred_92 : decode cX12_erred 92 = .ok (.iload 8, 2) := by decide +kernel
theorem dX12_erred_94 : decode cX12_erred 94 = .ok (.iconst 0, 1) := by decide +kernel
theorem dX12_erred_95 : decode cX12_erred 95 = .ok (.iastore, 1) := by decide +kernel
theorem dX12_erred_96 : decode cX12_erred 96 = .ok (.iinc 8 1, 3) := by decide +kernel
theorem dX12_erred_99 : decode cX12_erred 99 = .ok (.goto (-18), 3) := by decide +kernel
theorem dX12_erred_102 : decode cX12_erred 102 = .ok (.aload_n 0, 1) := by decide +kernel
theorem dX12_erred_103 : decode cX12_erred 103 = .ok (.invokevirtual 420, 3) := by decide +kernel
theorem dX12_erred_106 : decode cX12_erred 106 = .ok (.iconst 0, 1) := by decide +kernel
theorem dX12_erred_107 : decode cX12_erred 107 = .ok (.istore 8, 2) := by decide +kernel
theorem dX12_erred_109 : decode cX12_erred 109 = .ok (.iload 8, 2) := by decide +kernel
theorem dX12_erred_111 : decode cX12_erred 111 = .ok (.iload 6, 2) := by decide +kernel
theorem dX12_erred_113 : decode cX12_erred 113 = .ok (.if_icmp .ge 130, 3) := by decide +kernel
theorem dX12_erred_116 : decode cX12_erred 116 = .ok (.iconst 0, 1) := by decide +kernel
theorem dX12_erred_117 : decode cX12_erred 117 = .ok (.istore 9, 2) := by decide +kernel
theorem dX12_erred_119 : decode cX12_erred 119 = .ok (.iload 9, 2) := by decide +kernel
theorem dX12_erred_121 : decode cX12_erred 121 = .ok (.iload_n 3, 1) := by decide +kernel
theorem dX12_erred_122 : decode cX12_erred 122 = .ok (.if_icmp .ge 59, 3) := by decide +kernel
theorem dX12_erred_125 : decode cX12_erred 125 = .ok (.aload_n 0, 1) := by decide +kernel
theorem dX12_erred_126 : decode cX12_erred 126 = .ok (.invokevirtual 393, 3) := by decide +kernel
theorem dX12_erred_129 : decode cX12_erred 129 = .ok (.ifCond .ne 52, 3) := by decide +kernel
theorem dX12_erred_132 : decode cX12_erred 132 = .ok (.iconst 0, 1) := by decide +kernel
theorem dX12_erred_133 : decode cX12_erred 133 = .ok (.istore 10, 2) := by decide +kernel
theorem dX12_erred_135 : decode cX12_erred 135 = .ok (.iload 10, 2) := by decide +kernel
theorem dX12_erred_137 : decode cX12_erred 137 = .ok (.iconst 2, 1) := by decide +kernel
theorem dX12_erred_138 : decode cX12_erred 138 = .ok (.if_icmp .ge 31, 3) := by decide +kernel
theorem dX12_erred_141 : decode cX12_erred 141 = .ok (.aload_n 0, 1) := by decide +kernel
theorem dX12_erred_142 : decode cX12_erred 142 = .ok (.getfield 48, 3) := by decide +kernel
theorem dX12_erred_145 : decode cX12_erred 145 = .ok (.iload 10, 2) := by decide +kernel
theorem dX12_erred_147 : decode cX12_erred 147 = .ok (.iload 8, 2) := by decide +kernel
theorem dX12_erred_149 : decode cX12_erred 149 = .ok (.iconst 2, 1) := by decide +kernel
theorem dX12_erred_150 : decode cX12_erred 150 = .ok (.iload 9, 2) := by decide +kernel
theorem dX12_erred_152 : decode cX12_erred 152 = .ok (.imul, 1) := by decide +kernel
theorem dX12_erred_153 : decode cX12_erred 153 = .ok (.iload 10, 2) := by decide +kernel
theorem dX12_erred_155 : decode cX12_erred 155 = .ok (.iadd, 1) := by decide +kernel
theorem dX12_erred_156 : decode cX12_erred 156 = .ok (.invokestatic 481, 3) := by decide +kernel
theorem dX12_erred_159 : decode cX12_erred 159 = .ok (.iload 4, 2) := by decide +kernel
theorem dX12_erred_161 : decode cX12_erred 161 = .ok (.imul, 1) := by decide +kernel
theorem dX12_erred_162 : decode cX12_erred 162 = .ok (.iastore, 1) := by decide +kernel
theorem dX12_erred_163 : decode cX12_erred 163 = .ok (.iinc 10 1, 3) := by decide +kernel
theorem dX12_erred_166 : decode cX12_erred 166 = .ok (.goto (-31), 3) := by decide +kernel
theorem dX12_erred_169 : decode cX12_erred 169 = .ok (.aload_n 0, 1) := by decide +kernel
theorem dX12_erred_170 : decode cX12_erred 170 = .ok (.iload_n 1, 1) := by decide +kernel
theorem dX12_erred_171 : decode cX12_erred 171 = .ok (.iload_n 2, 1) := by decide +kernel
theorem dX12_erred_172 : decode cX12_erred 172 = .ok (.invokevirtual 396, 3) := by decide +kernel
theorem dX12_erred_175 : decode cX12_erred 175 = .ok (.iinc 9 1, 3) := by decide +kernel
theorem dX12_erred_178 : decode cX12_erred 178 = .ok (.goto (-59), 3) := by decide +kernel
theorem dX12_erred_181 : decode cX12_erred 181 = .ok (.aload_n 0, 1) := by decide +kernel
theorem dX12_erred_182 : decode cX12_erred 182 = .ok (.invokevirtual 484, 3) := by decide +kernel
theorem dX12_erred_185 : decode cX12_erred 185 = .ok (.ifCond .eq 48, 3) := by decide +kernel
theorem dX12_erred_188 : decode cX12_erred 188 = .ok (.iinc 7 1, 3) := by decide +kernel
theorem dX12_erred_191 : decode cX12_erred 191 = .ok (.iconst 0, 1) := by decide +kernel
theorem dX12_erred_192 : decode cX12_erred 192 = .ok (.istore 9, 2) := by decide +kernel
theorem dX12_erred_194 : decode cX12_erred 194 = .ok (.iload 9, 2) := by decide +kernel
theorem dX12_erred_196 : decode cX12_erred 196 = .ok (.iconst 2, 1) := by decide +kernel
theorem dX12_erred_197 : decode cX12_erred 197 = .ok (.iload_n 3, 1) := by decide +kernel
theorem dX12_erred_198 : decode cX12_erred 198 = .ok (.imul, 1) := by decide +kernel
theorem dX12_erred_199 : decode cX12_erred 199 = .ok (.if_icmp .ge 34, 3) := by decide +kernel
theorem dX12_erred_202 : decode cX12_erred 202 = .ok (.aload_n 0, 1) := by decide +kernel
theorem dX12_erred_203 : decode cX12_erred 203 = .ok (.getfield 82, 3) := by decide +kernel
theorem dX12_erred_206 : decode cX12_erred 206 = .ok (.iload 9, 2) := by decide +kernel
theorem dX12_erred_208 : decode cX12_erred 208 = .ok (.dup2, 1) := by decide +kernel
theorem dX12_erred_209 : decode cX12_erred 209 = .ok (.iaload, 1) := by decide +kernel
theorem dX12_erred_210 : decode cX12_erred 210 = .ok (.iload 8, 2) := by decide +kernel
theorem dX12_erred_212 : decode cX12_erred 212 = .ok (.iload 9, 2) := by decide +kernel
theorem dX12_erred_214 : decode cX12_erred 214 = .ok (.invokestatic 481, 3) := by decide +kernel
theorem dX12_erred_217 : decode cX12_erred 217 = .ok (.ifCond .ne 7, 3) := by decide +kernel
theorem dX12_erred_220 : decode cX12_erred 220 = .ok (.iconst 0, 1) := by decide +kernel
theorem dX12_erred_221 : decode cX12_erred 221 = .ok (.goto 4, 3) := by decide +kernel
theorem dX12_erred_224 : decode cX12_erred 224 = .ok (.iconst 1, 1) := by decide +kernel
theorem dX12_erred_225 : decode cX12_erred 225 = .ok (.iadd, 1) := by decide +kernel
theorem dX12_erred_226 : decode cX12_erred 226 = .ok (.iastore, 1) := by decide +kernel
theorem dX12_erred_227 : decode cX12_erred 227 = .ok (.iinc 9 1, 3) := by decide +kernel
theorem dX12_erred_230 : decode cX12_erred 230 = .ok (.goto (-36), 3) := by decide +kernel
theorem dX12_erred_233 : decode cX12_erred 233 = .ok (.aload_n 0, 1) := by decide +kernel
theorem dX12_erred_234 : decode cX12_erred 234 = .ok (.invokevirtual 423, 3) := by decide +kernel
theorem dX12_erred_237 : decode cX12_erred 237 = .ok (.iinc 8 1, 3) := by decide +kernel
theorem dX12_erred_240 : decode cX12_erred 240 = .ok (.goto (-131), 3) := by decide +kernel
theorem dX12_erred_243 : decode cX12_erred 243 = .ok (.iload 5, 2) := by decide +kernel
theorem dX12_erred_245 : decode cX12_erred 245 = .ok (.ifCond .ne 6, 3) := by decide +kernel
theorem dX12_erred_248 : decode cX12_erred 248 = .ok (.iload 7, 2) := by decide +kernel
theorem dX12_erred_250 : decode cX12_erred 250 = .ok (.ireturn, 1) := by decide +kernel
theorem dX12_erred_251 : decode cX12_erred 251 = .ok (.aload_n 0, 1) := by decide +kernel
theorem dX12_erred_252 : decode cX12_erred 252 = .ok (.getfield 82, 3) := by decide +kernel
theorem dX12_erred_255 : decode cX12_erred 255 = .ok (.iload 5, 2) := by decide +kernel
theorem dX12_erred_257 : decode cX12_erred 257 = .ok (.iconst 1, 1) := by decide +kernel
theorem dX12_erred_258 : decode cX12_erred 258 = .ok (.isub, 1) := by decide +kernel
theorem dX12_erred_259 : decode cX12_erred 259 = .ok (.iaload, 1) := by decide +kernel
theorem dX12_erred_260 : decode cX12_erred 260 = .ok (.istore 8, 2) := by decide +kernel
theorem dX12_erred_262 : decode cX12_erred 262 = .ok (.iload 8, 2) := by decide +kernel
theorem dX12_erred_264 : decode cX12_erred 264 = .ok (.ifCond .ne 7, 3) := by decide +kernel
theorem dX12_erred_267 : decode cX12_erred 267 = .ok (.iconst 0, 1) := by decide +kernel
theorem dX12_erred_268 : decode cX12_erred 268 = .ok (.goto 15, 3) := by decide +kernel
theorem dX12_erred_271 : decode cX12_erred 271 = .ok (.iload 8, 2) := by decide +kernel
theorem dX12_erred_273 : decode cX12_erred 273 = .ok (.iload 7, 2) := by decide +kernel
theorem dX12_erred_275 : decode cX12_erred 275 = .ok (.if_icmp .ne 7, 3) := by decide +kernel
theorem dX12_erred_278 : decode cX12_erred 278 = .ok (.iconst 2, 1) := by decide +kernel
theorem dX12_erred_279 : decode cX12_erred 279 = .ok (.goto 4, 3) := by decide +kernel
theorem dX12_erred_282 : decode cX12_erred 282 = .ok (.iconst 1, 1) := by decide +kernel
theorem dX12_erred_283 : decode cX12_erred 283 = .ok (.ireturn, 1) := by decide +kernel
theorem dX12_seed_0 : decode cX12_seed 0 = .ok (.iload_n 1, 1) := by decide +kernel
theorem dX12_seed_1 : decode cX12_seed 1 = .ok (.ifCond .ge 5, 3) := by decide +kernel
theorem dX12_seed_4 : decode cX12_seed 4 = .ok (.iconst (-1), 1) := by decide +kernel
theorem dX12_seed_5 : decode cX12_seed 5 = .ok (.ireturn, 1) := by decide +kernel
theorem dX12_seed_6 : decode cX12_seed 6 = .ok (.aload_n 0, 1) := by decide +kernel
theorem dX12_seed_7 : decode cX12_seed 7 = .ok (.getfield 45, 3) := by decide +kernel
theorem dX12_seed_10 : decode cX12_seed 10 = .ok (.iconst 5, 1) := by decide +kernel
theorem dX12_seed_11 : decode cX12_seed 11 = .ok (.iaload, 1) := by decide +kernel
theorem dX12_seed_12 : decode cX12_seed 12 = .ok (.istore_n 2, 1) := by decide +kernel
theorem dX12_seed_13 : decode cX12_seed 13 = .ok (.aload_n 0, 1) := by decide +kernel
theorem dX12_seed_14 : decode cX12_seed 14 = .ok (.getfield 45, 3) := by decide +kernel
theorem dX12_seed_17 : decode cX12_seed 17 = .ok (.iconst 5, 1) := by decide +kernel
theorem dX12_seed_18 : decode cX12_seed 18 = .ok (.iload_n 1, 1) := by decide +kernel
theorem dX12_seed_19 : decode cX12_seed 19 = .ok (.iastore, 1) := by decide +kernel
theorem dX12_seed_20 : decode cX12_seed 20 = .ok (.iload_n 2, 1) := by decide +kernel
theorem dX12_seed_21 : decode cX12_seed 21 = .ok (.ireturn, 1) := by decide +kernel
set_option maxRecDepth 20000 in
theorem ggX12_tried_X12_canAsk : GoodIn wsX12_tried wsX12_canAsk := goodIn_r _ [13, 14, 15, 16, 12, 17, 4, 18, 19, 20, 21, 22, 142, 143, 144, 145, 146, 147, 148, 149, 150, 151, 152, 153, 154, 155, 156, 157, 158, 159, 160, 161, 162, 163, 164, 165, 166, 167, 168, 169, 170, 171, 172, 173, 174, 175, 176, 177, 178, 179, 180, 181, 182, 183] rfl (by decide +kernel)
set_option maxRecDepth 20000 in
theorem gX12_tried_X12_canAsk : GoodIn wsX12_tried (wsV RX12 402 RX12 yX12_canAsk wsX12_canAsk) := goodIn_app (goodIn_of _ (by decide +kernel)) ggX12_tried_X12_canAsk
set_option maxRecDepth 20000 in
theorem ggX12_tried_X12_in : GoodIn wsX12_tried wsX12_in := goodIn_r _ [25] rfl (by decide +kernel)
set_option maxRecDepth 20000 in
theorem gX12_tried_X12_in : GoodIn wsX12_tried (va_wsS RX12 131 yX12_in wsX12_in) := goodIn_app (goodIn_of _ (by decide +kernel)) ggX12_tried_X12_in
set_option maxRecDepth 20000 in
theorem ggX12_tried_X12_keeps : GoodIn wsX12_tried wsX12_keeps := goodIn_r _ [29, 30, 4, 142, 143, 144, 145, 146, 147, 148, 149, 150, 151, 152, 153, 154, 155, 156, 157, 158, 159, 160, 161, 162, 163, 164, 165, 166, 167, 168, 169, 170, 171, 172, 173, 174, 175, 176, 177, 178, 179, 180, 181, 182, 183] rfl (by decide +kernel)
set_option maxRecDepth 20000 in
theorem gX12_tried_X12_keeps : GoodIn wsX12_tried (wsV RX12 420 RX12 yX12_keeps wsX12_keeps) := goodIn_app (goodIn_of _ (by decide +kernel)) ggX12_tried_X12_keeps
set_option maxRecDepth 20000 in
theorem ggX12_tried_X12_isMet : GoodIn wsX12_tried wsX12_isMet := goodIn_r _ [34, 35, 36, 37, 12, 38, 4, 142, 143, 144, 145, 146, 147, 148, 149, 150, 151, 152, 153, 154, 155, 156, 157, 158, 159, 160, 161, 162, 163, 164, 165, 166, 167, 168, 169, 170, 171, 172, 173, 174, 175, 176, 177, 178, 179, 180, 181, 182, 183] rfl (by decide +kernel)
set_option maxRecDepth 20000 in
theorem gX12_tried_X12_isMet : GoodIn wsX12_tried (wsV RX12 393 RX12 yX12_isMet wsX12_isMet) := goodIn_app (goodIn_of _ (by decide +kernel)) ggX12_tried_X12_isMet
set_option maxRecDepth 20000 in
theorem ggX12_tried_X12_errsAsTold : GoodIn wsX12_tried wsX12_errsAsTold := goodIn_r _ [42, 43, 4, 142, 143, 144, 145, 146, 147, 148, 149, 150, 151, 152, 153, 154, 155, 156, 157, 158, 159, 160, 161, 162, 163, 164, 165, 166, 167, 168, 169, 170, 171, 172, 173, 174, 175, 176, 177, 178, 179, 180, 181, 182, 183] rfl (by decide +kernel)
set_option maxRecDepth 20000 in
theorem gX12_tried_X12_errsAsTold : GoodIn wsX12_tried (wsV RX12 345 RX12 yX12_errsAsTold wsX12_errsAsTold) := goodIn_app (goodIn_of _ (by decide +kernel)) ggX12_tried_X12_errsAsTold
set_option maxRecDepth 20000 in
theorem ggX12_tried_X12_passes : GoodIn wsX12_tried wsX12_passes := goodIn_r _ [47, 4, 48, 49, 50, 12, 51, 52, 53, 54, 55, 56, 57, 58, 59, 60, 61, 62, 63, 64, 65, 66, 67, 43, 35, 36, 37, 38, 68, 69, 70, 71, 72, 73, 74, 75, 76, 77, 78, 79, 80, 81, 82, 83, 84, 85, 86, 87, 88, 89, 90, 91, 92, 93, 94, 95, 96, 97, 98, 99, 100, 101, 102, 103, 104, 105, 106, 107, 108, 109, 110, 111, 112, 113, 114, 115, 116, 117, 118, 119, 120, 121, 122, 123, 124, 125, 126, 142, 143, 144, 145, 146, 147, 148, 149, 150, 151, 152, 153, 154, 155, 156, 157, 158, 159, 160, 161, 162, 163, 164, 165, 166, 167, 168, 169, 170, 171, 172, 173, 174, 175, 176, 177, 178, 179, 180, 181, 182, 183] rfl (by decide +kernel)
set_option maxRecDepth 20000 in
theorem gX12_tried_X12_passes : GoodIn wsX12_tried (wsV RX12 396 RX12 yX12_passes wsX12_passes) := goodIn_app (goodIn_of _ (by decide +kernel)) ggX12_tried_X12_passes
set_option maxRecDepth 20000 in
theorem ggX12_tried_X12_takesYards : GoodIn wsX12_tried wsX12_takesYards := goodIn_r _ [115, 4, 116, 117, 12, 118, 142, 143, 144, 145, 146, 147, 148, 149, 150, 151, 152, 153, 154, 155, 156, 157, 158, 159, 160, 161, 162, 163, 164, 165, 166, 167, 168, 169, 170, 171, 172, 173, 174, 175, 176, 177, 178, 179, 180, 181, 182, 183] rfl (by decide +kernel)
set_option maxRecDepth 20000 in
theorem gX12_tried_X12_takesYards : GoodIn wsX12_tried (wsV RX12 364 RX12 yX12_takesYards wsX12_takesYards) := goodIn_app (goodIn_of _ (by decide +kernel)) ggX12_tried_X12_takesYards
set_option maxRecDepth 20000 in
theorem ggX12_tried_X12_isInTime : GoodIn wsX12_tried wsX12_isInTime := goodIn_r _ [130, 4, 31, 32, 33, 12, 34, 35, 36, 37, 38, 131, 132, 133, 134, 56, 57, 58, 59, 60, 61, 62, 63, 135, 136, 137, 142, 143, 144, 145, 146, 147, 148, 149, 150, 151, 152, 153, 154, 155, 156, 157, 158, 159, 160, 161, 162, 163, 164, 165, 166, 167, 168, 169, 170, 171, 172, 173, 174, 175, 176, 177, 178, 179, 180, 181, 182, 183] rfl (by decide +kernel)
set_option maxRecDepth 20000 in
theorem gX12_tried_X12_isInTime : GoodIn wsX12_tried (wsV RX12 413 RX12 yX12_isInTime wsX12_isInTime) := goodIn_app (goodIn_of _ (by decide +kernel)) ggX12_tried_X12_isInTime
set_option maxRecDepth 20000 in
theorem ggX12_tried_X12_putsBack : GoodIn wsX12_tried wsX12_putsBack := goodIn_r _ [141, 4, 30, 142, 143, 144, 145, 146, 147, 148, 149, 150, 151, 152, 153, 154, 155, 156, 157, 158, 159, 160, 161, 162, 163, 164, 165, 166, 167, 168, 169, 170, 171, 172, 173, 174, 175, 176, 177, 178, 179, 180, 181, 182, 183] rfl (by decide +kernel)
set_option maxRecDepth 20000 in
theorem gX12_tried_X12_putsBack : GoodIn wsX12_tried (wsV RX12 423 RX12 yX12_putsBack wsX12_putsBack) := goodIn_app (goodIn_of _ (by decide +kernel)) ggX12_tried_X12_putsBack
theorem dX12_tried_0 : decode cX12_tried 0 = .ok (.aload_n 0, 1) := by decide +kernel
theorem dX12_tried_1 : decode cX12_tried 1 = .ok (.iload_n 1, 1) := by decide +kernel
theorem dX12_tried_2 : decode cX12_tried 2 = .ok (.iload_n 2, 1) := by decide +kernel
theorem dX12_tried_3 : decode cX12_tried 3 = .ok (.invokevirtual 402, 3) := by decide +kernel
theorem dX12_tried_6 : decode cX12_tried 6 = .ok (.ifCond .eq 52, 3) := by decide +kernel
theorem dX12_tried_9 : decode cX12_tried 9 = .ok (.iload_n 3, 1) := by decide +kernel
theorem dX12_tried_10 : decode cX12_tried 10 = .ok (.i2l, 1) := by decide +kernel
theorem dX12_tried_11 : decode cX12_tried 11 = .ok (.lconst 1, 1) := by decide +kernel
theorem dX12_tried_12 : decode cX12_tried 12 = .ok (.ldc2_w 487, 3) := by decide +kernel
theorem dX12_tried_15 : decode cX12_tried 15 = .ok (.invokestatic 131, 3) := by decide +kernel
theorem dX12_tried_18 : decode cX12_tried 18 = .ok (.ifCond .eq 40, 3) := by decide +kernel
theorem dX12_tried_21 : decode cX12_tried 21 = .ok (.iload 4, 2) := by decide +kernel
theorem dX12_tried_23 : decode cX12_tried 23 = .ok (.i2l, 1) := by decide +kernel
theorem dX12_tried_24 : decode cX12_tried 24 = .ok (.lconst 1, 1) := by decide +kernel
theorem dX12_tried_25 : decode cX12_tried 25 = .ok (.ldc2_w 405, 3) := by decide +kernel
theorem dX12_tried_28 : decode cX12_tried 28 = .ok (.invokestatic 131, 3) := by decide +kernel
theorem dX12_tried_31 : decode cX12_tried 31 = .ok (.ifCond .eq 27, 3) := by decide +kernel
theorem dX12_tried_34 : decode cX12_tried 34 = .ok (.iload 5, 2) := by decide +kernel
theorem dX12_tried_36 : decode cX12_tried 36 = .ok (.i2l, 1) := by decide +kernel
theorem dX12_tried_37 : decode cX12_tried 37 = .ok (.lconst 0, 1) := by decide +kernel
theorem dX12_tried_38 : decode cX12_tried 38 = .ok (.ldc2_w 489, 3) := by decide +kernel
theorem dX12_tried_41 : decode cX12_tried 41 = .ok (.invokestatic 131, 3) := by decide +kernel
theorem dX12_tried_44 : decode cX12_tried 44 = .ok (.ifCond .eq 14, 3) := by decide +kernel
theorem dX12_tried_47 : decode cX12_tried 47 = .ok (.iload 6, 2) := by decide +kernel
theorem dX12_tried_49 : decode cX12_tried 49 = .ok (.i2l, 1) := by decide +kernel
theorem dX12_tried_50 : decode cX12_tried 50 = .ok (.lconst 0, 1) := by decide +kernel
theorem dX12_tried_51 : decode cX12_tried 51 = .ok (.lconst 1, 1) := by decide +kernel
theorem dX12_tried_52 : decode cX12_tried 52 = .ok (.invokestatic 131, 3) := by decide +kernel
theorem dX12_tried_55 : decode cX12_tried 55 = .ok (.ifCond .ne 5, 3) := by decide +kernel
theorem dX12_tried_58 : decode cX12_tried 58 = .ok (.iconst (-1), 1) := by decide +kernel
theorem dX12_tried_59 : decode cX12_tried 59 = .ok (.ireturn, 1) := by decide +kernel
theorem dX12_tried_60 : decode cX12_tried 60 = .ok (.aload_n 0, 1) := by decide +kernel
theorem dX12_tried_61 : decode cX12_tried 61 = .ok (.getfield 45, 3) := by decide +kernel
theorem dX12_tried_64 : decode cX12_tried 64 = .ok (.iconst 5, 1) := by decide +kernel
theorem dX12_tried_65 : decode cX12_tried 65 = .ok (.iaload, 1) := by decide +kernel
theorem dX12_tried_66 : decode cX12_tried 66 = .ok (.i2l, 1) := by decide +kernel
theorem dX12_tried_67 : decode cX12_tried 67 = .ok (.lstore 7, 2) := by decide +kernel
theorem dX12_tried_69 : decode cX12_tried 69 = .ok (.iconst 0, 1) := by decide +kernel
theorem dX12_tried_70 : decode cX12_tried 70 = .ok (.istore 9, 2) := by decide +kernel
theorem dX12_tried_72 : decode cX12_tried 72 = .ok (.aload_n 0, 1) := by decide +kernel
theorem dX12_tried_73 : decode cX12_tried 73 = .ok (.invokevirtual 420, 3) := by decide +kernel
theorem dX12_tried_76 : decode cX12_tried 76 = .ok (.iconst 0, 1) := by decide +kernel
theorem dX12_tried_77 : decode cX12_tried 77 = .ok (.istore 10, 2) := by decide +kernel
theorem dX12_tried_79 : decode cX12_tried 79 = .ok (.iload 10, 2) := by decide +kernel
theorem dX12_tried_81 : decode cX12_tried 81 = .ok (.iload_n 3, 1) := by decide +kernel
theorem dX12_tried_82 : decode cX12_tried 82 = .ok (.if_icmp .ge 145, 3) := by decide +kernel
theorem dX12_tried_85 : decode cX12_tried 85 = .ok (.iconst 0, 1) := by decide +kernel
theorem dX12_tried_86 : decode cX12_tried 86 = .ok (.istore 11, 2) := by decide +kernel
theorem dX12_tried_88 : decode cX12_tried 88 = .ok (.iload 11, 2) := by decide +kernel
theorem dX12_tried_90 : decode cX12_tried 90 = .ok (.iload 4, 2) := by decide +kernel
theorem dX12_tried_92 : decode cX12_tried 92 = .ok (.if_icmp .ge 84, 3) := by decide +kernel
theorem dX12_tried_95 : decode cX12_tried 95 = .ok (.aload_n 0, 1) := by decide +kernel
theorem dX12_tried_96 : decode cX12_tried 96 = .ok (.invokevirtual 393, 3) := by decide +kernel
theorem dX12_tried_99 : decode cX12_tried 99 = .ok (.ifCond .ne 77, 3) := by decide +kernel
theorem dX12_tried_102 : decode cX12_tried 102 = .ok (.aload_n 0, 1) := by decide +kernel
theorem dX12_tried_103 : decode cX12_tried 103 = .ok (.invokevirtual 345, 3) := by decide +kernel
theorem dX12_tried_106 : decode cX12_tried 106 = .ok (.aload_n 0, 1) := by decide +kernel
theorem dX12_tried_107 : decode cX12_tried 107 = .ok (.iload_n 1, 1) := by decide +kernel
theorem dX12_tried_108 : decode cX12_tried 108 = .ok (.iload_n 2, 1) := by decide +kernel
theorem dX12_tried_109 : decode cX12_tried 109 = .ok (.invokevirtual 396, 3) := by decide +kernel
theorem dX12_tried_112 : decode cX12_tried 112 = .ok (.lload 7, 2) := by decide +kernel
theorem dX12_tried_114 : decode cX12_tried 114 = .ok (.ldc2_w 491, 3) := by decide +kernel
theorem dX12_tried_117 : decode cX12_tried 117 = .ok (.lmul, 1) := by decide +kernel
theorem dX12_tried_118 : decode cX12_tried 118 = .ok (.ldc2_w 493, 3) := by decide +kernel
theorem dX12_tried_121 : decode cX12_tried 121 = .ok (.ladd, 1) := by decide +kernel
theorem dX12_tried_122 : decode cX12_tried 122 = .ok (.ldc2_w 495, 3) := by decide +kernel
theorem dX12_tried_125 : decode cX12_tried 125 = .ok (.lrem, 1) := by decide +kernel
theorem dX12_tried_126 : decode cX12_tried 126 = .ok (.lstore 7, 2) := by decide +kernel
theorem dX12_tried_128 : decode cX12_tried 128 = .ok (.lload 7, 2) := by decide +kernel
theorem dX12_tried_130 : decode cX12_tried 130 = .ok (.ldc2_w 497, 3) := by decide +kernel
theorem dX12_tried_133 : decode cX12_tried 133 = .ok (.ldiv, 1) := by decide +kernel
theorem dX12_tried_134 : decode cX12_tried 134 = .ok (.ldc2_w 489, 3) := by decide +kernel
theorem dX12_tried_137 : decode cX12_tried 137 = .ok (.lrem, 1) := by decide +kernel
theorem dX12_tried_138 : decode cX12_tried 138 = .ok (.iload 5, 2) := by decide +kernel
theorem dX12_tried_140 : decode cX12_tried 140 = .ok (.i2l, 1) := by decide +kernel
theorem dX12_tried_141 : decode cX12_tried 141 = .ok (.lcmp, 1) := by decide +kernel
theorem dX12_tried_142 : decode cX12_tried 142 = .ok (.ifCond .lt 6, 3) := by decide +kernel
theorem dX12_tried_145 : decode cX12_tried 145 = .ok (.goto 25, 3) := by decide +kernel
theorem dX12_tried_148 : decode cX12_tried 148 = .ok (.iconst 0, 1) := by decide +kernel
theorem dX12_tried_149 : decode cX12_tried 149 = .ok (.istore 12, 2) := by decide +kernel
theorem dX12_tried_151 : decode cX12_tried 151 = .ok (.iload 12, 2) := by decide +kernel
theorem dX12_tried_153 : decode cX12_tried 153 = .ok (.iconst 2, 1) := by decide +kernel
theorem dX12_tried_154 : decode cX12_tried 154 = .ok (.if_icmp .ge 16, 3) := by decide +kernel
theorem dX12_tried_157 : decode cX12_tried 157 = .ok (.aload_n 0, 1) := by decide +kernel
theorem dX12_tried_158 : decode cX12_tried 158 = .ok (.iload 12, 2) := by decide +kernel
theorem dX12_tried_160 : decode cX12_tried 160 = .ok (.iconst 1, 1) := by decide +kernel
theorem dX12_tried_161 : decode cX12_tried 161 = .ok (.invokevirtual 364, 3) := by decide +kernel
theorem dX12_tried_164 : decode cX12_tried 164 = .ok (.iinc 12 1, 3) := by decide +kernel
theorem dX12_tried_167 : decode cX12_tried 167 = .ok (.goto (-16), 3) := by decide +kernel
theorem dX12_tried_170 : decode cX12_tried 170 = .ok (.iinc 11 1, 3) := by decide +kernel
theorem dX12_tried_173 : decode cX12_tried 173 = .ok (.goto (-85), 3) := by decide +kernel
theorem dX12_tried_176 : decode cX12_tried 176 = .ok (.iload 9, 2) := by decide +kernel
theorem dX12_tried_178 : decode cX12_tried 178 = .ok (.iload 6, 2) := by decide +kernel
theorem dX12_tried_180 : decode cX12_tried 180 = .ok (.iconst 1, 1) := by decide +kernel
theorem dX12_tried_181 : decode cX12_tried 181 = .ok (.if_icmp .ne 21, 3) := by decide +kernel
theorem dX12_tried_184 : decode cX12_tried 184 = .ok (.aload_n 0, 1) := by decide +kernel
theorem dX12_tried_185 : decode cX12_tried 185 = .ok (.getfield 45, 3) := by decide +kernel
theorem dX12_tried_188 : decode cX12_tried 188 = .ok (.bipush 6, 2) := by decide +kernel
theorem dX12_tried_190 : decode cX12_tried 190 = .ok (.iaload, 1) := by decide +kernel
theorem dX12_tried_191 : decode cX12_tried 191 = .ok (.aload_n 0, 1) := by decide +kernel
theorem dX12_tried_192 : decode cX12_tried 192 = .ok (.getfield 45, 3) := by decide +kernel
theorem dX12_tried_195 : decode cX12_tried 195 = .ok (.bipush 7, 2) := by decide +kernel
theorem dX12_tried_197 : decode cX12_tried 197 = .ok (.iaload, 1) := by decide +kernel
theorem dX12_tried_198 : decode cX12_tried 198 = .ok (.iadd, 1) := by decide +kernel
theorem dX12_tried_199 : decode cX12_tried 199 = .ok (.goto 15, 3) := by decide +kernel
theorem dX12_tried_202 : decode cX12_tried 202 = .ok (.aload_n 0, 1) := by decide +kernel
theorem dX12_tried_203 : decode cX12_tried 203 = .ok (.invokevirtual 413, 3) := by decide +kernel
theorem dX12_tried_206 : decode cX12_tried 206 = .ok (.ifCond .eq 7, 3) := by decide +kernel
theorem dX12_tried_209 : decode cX12_tried 209 = .ok (.iconst 1, 1) := by decide +kernel
theorem dX12_tried_210 : decode cX12_tried 210 = .ok (.goto 4, 3) := by decide +kernel
theorem dX12_tried_213 : decode cX12_tried 213 = .ok (.iconst 0, 1) := by decide +kernel
theorem dX12_tried_214 : decode cX12_tried 214 = .ok (.iadd, 1) := by decide +kernel
theorem dX12_tried_215 : decode cX12_tried 215 = .ok (.istore 9, 2) := by decide +kernel
theorem dX12_tried_217 : decode cX12_tried 217 = .ok (.aload_n 0, 1) := by decide +kernel
theorem dX12_tried_218 : decode cX12_tried 218 = .ok (.invokevirtual 423, 3) := by decide +kernel
theorem dX12_tried_221 : decode cX12_tried 221 = .ok (.iinc 10 1, 3) := by decide +kernel
theorem dX12_tried_224 : decode cX12_tried 224 = .ok (.goto (-145), 3) := by decide +kernel
theorem dX12_tried_227 : decode cX12_tried 227 = .ok (.iload 9, 2) := by decide +kernel
theorem dX12_tried_229 : decode cX12_tried 229 = .ok (.ireturn, 1) := by decide +kernel
set_option maxRecDepth 20000 in
theorem ggX12_leap_X12_in : GoodIn wsX12_leap wsX12_in := goodIn_r _ [5] rfl (by decide +kernel)
set_option maxRecDepth 20000 in
theorem gX12_leap_X12_in : GoodIn wsX12_leap (va_wsS RX12 131 yX12_in wsX12_in) := goodIn_app (goodIn_of _ (by decide +kernel)) ggX12_leap_X12_in
theorem dX12_leap_0 : decode cX12_leap 0 = .ok (.iload_n 1, 1) := by decide +kernel
theorem dX12_leap_1 : decode cX12_leap 1 = .ok (.i2l, 1) := by decide +kernel
theorem dX12_leap_2 : decode cX12_leap 2 = .ok (.lconst 1, 1) := by decide +kernel
theorem dX12_leap_3 : decode cX12_leap 3 = .ok (.ldc2_w 479, 3) := by decide +kernel
theorem dX12_leap_6 : decode cX12_leap 6 = .ok (.invokestatic 131, 3) := by decide +kernel
theorem dX12_leap_9 : decode cX12_leap 9 = .ok (.ifCond .ne 5, 3) := by decide +kernel
theorem dX12_leap_12 : decode cX12_leap 12 = .ok (.iconst (-1), 1) := by decide +kernel
theorem dX12_leap_13 : decode cX12_leap 13 = .ok (.ireturn, 1) := by decide +kernel
theorem dX12_leap_14 : decode cX12_leap 14 = .ok (.iload_n 1, 1) := by decide +kernel
theorem dX12_leap_15 : decode cX12_leap 15 = .ok (.sipush 400, 3) := by decide +kernel
theorem dX12_leap_18 : decode cX12_leap 18 = .ok (.irem, 1) := by decide +kernel
theorem dX12_leap_19 : decode cX12_leap 19 = .ok (.ifCond .eq 16, 3) := by decide +kernel
theorem dX12_leap_22 : decode cX12_leap 22 = .ok (.iload_n 1, 1) := by decide +kernel
theorem dX12_leap_23 : decode cX12_leap 23 = .ok (.iconst 4, 1) := by decide +kernel
theorem dX12_leap_24 : decode cX12_leap 24 = .ok (.irem, 1) := by decide +kernel
theorem dX12_leap_25 : decode cX12_leap 25 = .ok (.ifCond .ne 14, 3) := by decide +kernel
theorem dX12_leap_28 : decode cX12_leap 28 = .ok (.iload_n 1, 1) := by decide +kernel
theorem dX12_leap_29 : decode cX12_leap 29 = .ok (.bipush 100, 2) := by decide +kernel
theorem dX12_leap_31 : decode cX12_leap 31 = .ok (.irem, 1) := by decide +kernel
theorem dX12_leap_32 : decode cX12_leap 32 = .ok (.ifCond .eq 7, 3) := by decide +kernel
theorem dX12_leap_35 : decode cX12_leap 35 = .ok (.iconst 1, 1) := by decide +kernel
theorem dX12_leap_36 : decode cX12_leap 36 = .ok (.goto 4, 3) := by decide +kernel
theorem dX12_leap_39 : decode cX12_leap 39 = .ok (.iconst 0, 1) := by decide +kernel
theorem dX12_leap_40 : decode cX12_leap 40 = .ok (.ireturn, 1) := by decide +kernel
set_option maxRecDepth 20000 in
theorem ggX12_count_X12_gap : GoodIn wsX12_count wsX12_gap := goodIn_r _ [9, 1, 14, 15, 16, 17, 18, 19, 20, 21, 22, 23, 24, 25, 26, 27, 28, 29, 30, 31, 32, 33, 34, 35, 36, 37, 38, 39, 40, 41, 42, 43, 44, 45, 46, 47, 48, 49, 50, 51, 52, 53, 54, 55] rfl (by decide +kernel)
set_option maxRecDepth 20000 in
theorem gX12_count_X12_gap : GoodIn wsX12_count (wsV RX12 314 RX12 yX12_gap wsX12_gap) := goodIn_app (goodIn_of _ (by decide +kernel)) ggX12_count_X12_gap
set_option maxRecDepth 20000 in
theorem ggX12_count_X12_isRiver : GoodIn wsX12_count wsX12_isRiver := goodIn_r _ [13, 1, 14, 15, 16, 17, 18, 19, 20, 21, 22, 23, 24, 25, 26, 27, 28, 29, 30, 31, 32, 33, 34, 35, 36, 37, 38, 39, 40, 41, 42, 43, 44, 45, 46, 47, 48, 49, 50, 51, 52, 53, 54, 55] rfl (by decide +kernel)
set_option maxRecDepth 20000 in
theorem gX12_count_X12_isRiver : GoodIn wsX12_count (wsV RX12 331 RX12 yX12_isRiver wsX12_isRiver) := goodIn_app (goodIn_of _ (by decide +kernel)) ggX12_count_X12_isRiver
theorem dX12_count_0 : decode cX12_count 0 = .ok (.iconst 0, 1) := by decide +kernel
theorem dX12_count_1 : decode cX12_count 1 = .ok (.istore_n 2, 1) := by decide +kernel
theorem dX12_count_2 : decode cX12_count 2 = .ok (.iload_n 1, 1) := by decide +kernel
theorem dX12_count_3 : decode cX12_count 3 = .ok (.tableswitch 155 0 9 #[53, 60, 65, 72, 77, 84, 91, 98, 143, 150], 53) := by decide +kernel
theorem dX12_count_56 : decode cX12_count 56 = .ok (.aload_n 0, 1) := by decide +kernel
theorem dX12_count_57 : decode cX12_count 57 = .ok (.getfield 45, 3) := by decide +kernel
theorem dX12_count_60 : decode cX12_count 60 = .ok (.iconst 0, 1) := by decide +kernel
theorem dX12_count_61 : decode cX12_count 61 = .ok (.iaload, 1) := by decide +kernel
theorem dX12_count_62 : decode cX12_count 62 = .ok (.ireturn, 1) := by decide +kernel
theorem dX12_count_63 : decode cX12_count 63 = .ok (.aload_n 0, 1) := by decide +kernel
theorem dX12_count_64 : decode cX12_count 64 = .ok (.invokevirtual 314, 3) := by decide +kernel
theorem dX12_count_67 : decode cX12_count 67 = .ok (.ireturn, 1) := by decide +kernel
theorem dX12_count_68 : decode cX12_count 68 = .ok (.aload_n 0, 1) := by decide +kernel
theorem dX12_count_69 : decode cX12_count 69 = .ok (.getfield 45, 3) := by decide +kernel
theorem dX12_count_72 : decode cX12_count 72 = .ok (.iconst 1, 1) := by decide +kernel
theorem dX12_count_73 : decode cX12_count 73 = .ok (.iaload, 1) := by decide +kernel
theorem dX12_count_74 : decode cX12_count 74 = .ok (.ireturn, 1) := by decide +kernel
theorem dX12_count_75 : decode cX12_count 75 = .ok (.aload_n 0, 1) := by decide +kernel
theorem dX12_count_76 : decode cX12_count 76 = .ok (.getfield 293, 3) := by decide +kernel
theorem dX12_count_79 : decode cX12_count 79 = .ok (.ireturn, 1) := by decide +kernel
theorem dX12_count_80 : decode cX12_count 80 = .ok (.aload_n 0, 1) := by decide +kernel
theorem dX12_count_81 : decode cX12_count 81 = .ok (.getfield 45, 3) := by decide +kernel
theorem dX12_count_84 : decode cX12_count 84 = .ok (.iconst 4, 1) := by decide +kernel
theorem dX12_count_85 : decode cX12_count 85 = .ok (.iaload, 1) := by decide +kernel
theorem dX12_count_86 : decode cX12_count 86 = .ok (.ireturn, 1) := by decide +kernel
theorem dX12_count_87 : decode cX12_count 87 = .ok (.aload_n 0, 1) := by decide +kernel
theorem dX12_count_88 : decode cX12_count 88 = .ok (.getfield 45, 3) := by decide +kernel
theorem dX12_count_91 : decode cX12_count 91 = .ok (.iconst 2, 1) := by decide +kernel
theorem dX12_count_92 : decode cX12_count 92 = .ok (.iaload, 1) := by decide +kernel
theorem dX12_count_93 : decode cX12_count 93 = .ok (.ireturn, 1) := by decide +kernel
theorem dX12_count_94 : decode cX12_count 94 = .ok (.aload_n 0, 1) := by decide +kernel
theorem dX12_count_95 : decode cX12_count 95 = .ok (.getfield 45, 3) := by decide +kernel
theorem dX12_count_98 : decode cX12_count 98 = .ok (.iconst 3, 1) := by decide +kernel
theorem dX12_count_99 : decode cX12_count 99 = .ok (.iaload, 1) := by decide +kernel
theorem dX12_count_100 : decode cX12_count 100 = .ok (.ireturn, 1) := by decide +kernel
theorem dX12_count_101 : decode cX12_count 101 = .ok (.iconst 0, 1) := by decide +kernel
theorem dX12_count_102 : decode cX12_count 102 = .ok (.istore_n 3, 1) := by decide +kernel
theorem dX12_count_103 : decode cX12_count 103 = .ok (.iload_n 3, 1) := by decide +kernel
theorem dX12_count_104 : decode cX12_count 104 = .ok (.bipush 80, 2) := by decide +kernel
theorem dX12_count_106 : decode cX12_count 106 = .ok (.if_icmp .ge 38, 3) := by decide +kernel
theorem dX12_count_109 : decode cX12_count 109 = .ok (.aload_n 0, 1) := by decide +kernel
theorem dX12_count_110 : decode cX12_count 110 = .ok (.invokevirtual 331, 3) := by decide +kernel
theorem dX12_count_113 : decode cX12_count 113 = .ok (.ifCond .eq 31, 3) := by decide +kernel
theorem dX12_count_116 : decode cX12_count 116 = .ok (.iload_n 2, 1) := by decide +kernel
theorem dX12_count_117 : decode cX12_count 117 = .ok (.aload_n 0, 1) := by decide +kernel
theorem dX12_count_118 : decode cX12_count 118 = .ok (.getfield 45, 3) := by decide +kernel
theorem dX12_count_121 : decode cX12_count 121 = .ok (.bipush 46, 2) := by decide +kernel
theorem dX12_count_123 : decode cX12_count 123 = .ok (.iload_n 3, 1) := by decide +kernel
theorem dX12_count_124 : decode cX12_count 124 = .ok (.iadd, 1) := by decide +kernel
theorem dX12_count_125 : decode cX12_count 125 = .ok (.iaload, 1) := by decide +kernel
theorem dX12_count_126 : decode cX12_count 126 = .ok (.ldc 173, 2) := by decide +kernel
theorem dX12_count_128 : decode cX12_count 128 = .ok (.if_icmp .ne 7, 3) := by decide +kernel
theorem dX12_count_131 : decode cX12_count 131 = .ok (.iconst 0, 1) := by decide +kernel
theorem dX12_count_132 : decode cX12_count 132 = .ok (.goto 4, 3) := by decide +kernel
theorem dX12_count_135 : decode cX12_count 135 = .ok (.iconst 1, 1) := by decide +kernel
theorem dX12_count_136 : decode cX12_count 136 = .ok (.iadd, 1) := by decide +kernel
theorem dX12_count_137 : decode cX12_count 137 = .ok (.istore_n 2, 1) := by decide +kernel
theorem dX12_count_138 : decode cX12_count 138 = .ok (.iinc 3 1, 3) := by decide +kernel
theorem dX12_count_141 : decode cX12_count 141 = .ok (.goto (-38), 3) := by decide +kernel
theorem dX12_count_144 : decode cX12_count 144 = .ok (.iload_n 2, 1) := by decide +kernel
theorem dX12_count_145 : decode cX12_count 145 = .ok (.ireturn, 1) := by decide +kernel
theorem dX12_count_146 : decode cX12_count 146 = .ok (.aload_n 0, 1) := by decide +kernel
theorem dX12_count_147 : decode cX12_count 147 = .ok (.getfield 45, 3) := by decide +kernel
theorem dX12_count_150 : decode cX12_count 150 = .ok (.iconst 5, 1) := by decide +kernel
theorem dX12_count_151 : decode cX12_count 151 = .ok (.iaload, 1) := by decide +kernel
theorem dX12_count_152 : decode cX12_count 152 = .ok (.ireturn, 1) := by decide +kernel
theorem dX12_count_153 : decode cX12_count 153 = .ok (.aload_n 0, 1) := by decide +kernel
theorem dX12_count_154 : decode cX12_count 154 = .ok (.getfield 92, 3) := by decide +kernel
theorem dX12_count_157 : decode cX12_count 157 = .ok (.ireturn, 1) := by decide +kernel
theorem dX12_count_158 : decode cX12_count 158 = .ok (.iconst (-1), 1) := by decide +kernel
theorem dX12_count_159 : decode cX12_count 159 = .ok (.ireturn, 1) := by decide +kernel
set_option maxRecDepth 20000 in
theorem ggX12_image_X12_in : GoodIn wsX12_image wsX12_in := goodIn_r _ [8] rfl (by decide +kernel)
set_option maxRecDepth 20000 in
theorem gX12_image_X12_in : GoodIn wsX12_image (va_wsS RX12 131 yX12_in wsX12_in) := goodIn_app (goodIn_of _ (by decide +kernel)) ggX12_image_X12_in
theorem dX12_image_0 : decode cX12_image 0 = .ok (.iload_n 1, 1) := by decide +kernel
theorem dX12_image_1 : decode cX12_image 1 = .ok (.i2l, 1) := by decide +kernel
theorem dX12_image_2 : decode cX12_image 2 = .ok (.lconst 0, 1) := by decide +kernel
theorem dX12_image_3 : decode cX12_image 3 = .ok (.ldc2_w 337, 3) := by decide +kernel
theorem dX12_image_6 : decode cX12_image 6 = .ok (.invokestatic 131, 3) := by decide +kernel
theorem dX12_image_9 : decode cX12_image 9 = .ok (.ifCond .ne 5, 3) := by decide +kernel
theorem dX12_image_12 : decode cX12_image 12 = .ok (.iconst (-1), 1) := by decide +kernel
theorem dX12_image_13 : decode cX12_image 13 = .ok (.ireturn, 1) := by decide +kernel
theorem dX12_image_14 : decode cX12_image 14 = .ok (.aload_n 0, 1) := by decide +kernel
theorem dX12_image_15 : decode cX12_image 15 = .ok (.getfield 88, 3) := by decide +kernel
theorem dX12_image_18 : decode cX12_image 18 = .ok (.iload_n 1, 1) := by decide +kernel
theorem dX12_image_19 : decode cX12_image 19 = .ok (.iconst 1, 1) := by decide +kernel
theorem dX12_image_20 : decode cX12_image 20 = .ok (.bastore, 1) := by decide +kernel
theorem dX12_image_21 : decode cX12_image 21 = .ok (.iconst 0, 1) := by decide +kernel
theorem dX12_image_22 : decode cX12_image 22 = .ok (.istore_n 2, 1) := by decide +kernel
theorem dX12_image_23 : decode cX12_image 23 = .ok (.iload_n 2, 1) := by decide +kernel
theorem dX12_image_24 : decode cX12_image 24 = .ok (.sipush 286, 3) := by decide +kernel
theorem dX12_image_27 : decode cX12_image 27 = .ok (.if_icmp .ge 27, 3) := by decide +kernel
theorem dX12_image_30 : decode cX12_image 30 = .ok (.aload_n 0, 1) := by decide +kernel
theorem dX12_image_31 : decode cX12_image 31 = .ok (.getfield 85, 3) := by decide +kernel
theorem dX12_image_34 : decode cX12_image 34 = .ok (.sipush 286, 3) := by decide +kernel
theorem dX12_image_37 : decode cX12_image 37 = .ok (.iload_n 1, 1) := by decide +kernel
theorem dX12_image_38 : decode cX12_image 38 = .ok (.imul, 1) := by decide +kernel
theorem dX12_image_39 : decode cX12_image 39 = .ok (.iload_n 2, 1) := by decide +kernel
theorem dX12_image_40 : decode cX12_image 40 = .ok (.iadd, 1) := by decide +kernel
theorem dX12_image_41 : decode cX12_image 41 = .ok (.aload_n 0, 1) := by decide +kernel
theorem dX12_image_42 : decode cX12_image 42 = .ok (.getfield 45, 3) := by decide +kernel
theorem dX12_image_45 : decode cX12_image 45 = .ok (.iload_n 2, 1) := by decide +kernel
theorem dX12_image_46 : decode cX12_image 46 = .ok (.iaload, 1) := by decide +kernel
theorem dX12_image_47 : decode cX12_image 47 = .ok (.iastore, 1) := by decide +kernel
theorem dX12_image_48 : decode cX12_image 48 = .ok (.iinc 2 1, 3) := by decide +kernel
theorem dX12_image_51 : decode cX12_image 51 = .ok (.goto (-28), 3) := by decide +kernel
theorem dX12_image_54 : decode cX12_image 54 = .ok (.aload_n 0, 1) := by decide +kernel
theorem dX12_image_55 : decode cX12_image 55 = .ok (.getfield 45, 3) := by decide +kernel
theorem dX12_image_58 : decode cX12_image 58 = .ok (.iconst 1, 1) := by decide +kernel
theorem dX12_image_59 : decode cX12_image 59 = .ok (.iaload, 1) := by decide +kernel
theorem dX12_image_60 : decode cX12_image 60 = .ok (.ireturn, 1) := by decide +kernel
set_option maxRecDepth 20000 in
theorem ggX12_back_X12_in : GoodIn wsX12_back wsX12_in := goodIn_r _ [8] rfl (by decide +kernel)
set_option maxRecDepth 20000 in
theorem gX12_back_X12_in : GoodIn wsX12_back (va_wsS RX12 131 yX12_in wsX12_in) := goodIn_app (goodIn_of _ (by decide +kernel)) ggX12_back_X12_in
theorem dX12_back_0 : decode cX12_back 0 = .ok (.iload_n 1, 1) := by decide +kernel
theorem dX12_back_1 : decode cX12_back 1 = .ok (.i2l, 1) := by decide +kernel
theorem dX12_back_2 : decode cX12_back 2 = .ok (.lconst 0, 1) := by decide +kernel
theorem dX12_back_3 : decode cX12_back 3 = .ok (.ldc2_w 337, 3) := by decide +kernel
theorem dX12_back_6 : decode cX12_back 6 = .ok (.invokestatic 131, 3) := by decide +kernel
theorem dX12_back_9 : decode cX12_back 9 = .ok (.ifCond .eq 12, 3) := by decide +kernel
theorem dX12_back_12 : decode cX12_back 12 = .ok (.aload_n 0, 1) := by decide +kernel
theorem dX12_back_13 : decode cX12_back 13 = .ok (.getfield 88, 3) := by decide +kernel
theorem dX12_back_16 : decode cX12_back 16 = .ok (.iload_n 1, 1) := by decide +kernel
theorem dX12_back_17 : decode cX12_back 17 = .ok (.baload, 1) := by decide +kernel
theorem dX12_back_18 : decode cX12_back 18 = .ok (.ifCond .ne 5, 3) := by decide +kernel
theorem dX12_back_21 : decode cX12_back 21 = .ok (.iconst (-1), 1) := by decide +kernel
theorem dX12_back_22 : decode cX12_back 22 = .ok (.ireturn, 1) := by decide +kernel
theorem dX12_back_23 : decode cX12_back 23 = .ok (.iconst 0, 1) := by decide +kernel
theorem dX12_back_24 : decode cX12_back 24 = .ok (.istore_n 2, 1) := by decide +kernel
theorem dX12_back_25 : decode cX12_back 25 = .ok (.iload_n 2, 1) := by decide +kernel
theorem dX12_back_26 : decode cX12_back 26 = .ok (.sipush 286, 3) := by decide +kernel
theorem dX12_back_29 : decode cX12_back 29 = .ok (.if_icmp .ge 27, 3) := by decide +kernel
theorem dX12_back_32 : decode cX12_back 32 = .ok (.aload_n 0, 1) := by decide +kernel
theorem dX12_back_33 : decode cX12_back 33 = .ok (.getfield 45, 3) := by decide +kernel
theorem dX12_back_36 : decode cX12_back 36 = .ok (.iload_n 2, 1) := by decide +kernel
theorem dX12_back_37 : decode cX12_back 37 = .ok (.aload_n 0, 1) := by decide +kernel
theorem dX12_back_38 : decode cX12_back 38 = .ok (.getfield 85, 3) := by decide +kernel
theorem dX12_back_41 : decode cX12_back 41 = .ok (.sipush 286, 3) := by decide +kernel
theorem dX12_back_44 : decode cX12_back 44 = .ok (.iload_n 1, 1) := by decide +kernel
theorem dX12_back_45 : decode cX12_back 45 = .ok (.imul, 1) := by decide +kernel
theorem dX12_back_46 : decode cX12_back 46 = .ok (.iload_n 2, 1) := by decide +kernel
theorem dX12_back_47 : decode cX12_back 47 = .ok (.iadd, 1) := by decide +kernel
theorem dX12_back_48 : decode cX12_back 48 = .ok (.iaload, 1) := by decide +kernel
theorem dX12_back_49 : decode cX12_back 49 = .ok (.iastore, 1) := by decide +kernel
theorem dX12_back_50 : decode cX12_back 50 = .ok (.iinc 2 1, 3) := by decide +kernel
theorem dX12_back_53 : decode cX12_back 53 = .ok (.goto (-28), 3) := by decide +kernel
theorem dX12_back_56 : decode cX12_back 56 = .ok (.aload_n 0, 1) := by decide +kernel
theorem dX12_back_57 : decode cX12_back 57 = .ok (.getfield 45, 3) := by decide +kernel
theorem dX12_back_60 : decode cX12_back 60 = .ok (.iconst 1, 1) := by decide +kernel
theorem dX12_back_61 : decode cX12_back 61 = .ok (.iaload, 1) := by decide +kernel
theorem dX12_back_62 : decode cX12_back 62 = .ok (.ireturn, 1) := by decide +kernel
