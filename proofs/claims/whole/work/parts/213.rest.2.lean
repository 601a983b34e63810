theorem dX11_back_13 : decode cX11_back 13 = .ok (.iload_n 1, 1) := by decide +kernel
theorem dX11_back_14 : decode cX11_back 14 = .ok (.aaload, 1) := by decide +kernel
theorem dX11_back_15 : decode cX11_back 15 = .ok (.ifnonnull 5, 3) := by decide +kernel
theorem dX11_back_18 : decode cX11_back 18 = .ok (.iconst (-1), 1) := by decide +kernel
theorem dX11_back_19 : decode cX11_back 19 = .ok (.ireturn, 1) := by decide +kernel
theorem dX11_back_20 : decode cX11_back 20 = .ok (.aload_n 0, 1) := by decide +kernel
theorem dX11_back_21 : decode cX11_back 21 = .ok (.getfield 22, 3) := by decide +kernel
theorem dX11_back_24 : decode cX11_back 24 = .ok (.aload_n 0, 1) := by decide +kernel
theorem dX11_back_25 : decode cX11_back 25 = .ok (.getfield 26, 3) := by decide +kernel
theorem dX11_back_28 : decode cX11_back 28 = .ok (.iload_n 1, 1) := by decide +kernel
theorem dX11_back_29 : decode cX11_back 29 = .ok (.aaload, 1) := by decide +kernel
theorem dX11_back_30 : decode cX11_back 30 = .ok (.invokevirtual 285, 3) := by decide +kernel
theorem dX11_back_33 : decode cX11_back 33 = .ok (.aload_n 0, 1) := by decide +kernel
theorem dX11_back_34 : decode cX11_back 34 = .ok (.getfield 22, 3) := by decide +kernel
theorem dX11_back_37 : decode cX11_back 37 = .ok (.getfield 93, 3) := by decide +kernel
theorem dX11_back_40 : decode cX11_back 40 = .ok (.getfield 119, 3) := by decide +kernel
theorem dX11_back_43 : decode cX11_back 43 = .ok (.ireturn, 1) := by decide +kernel
theorem dX11_putOnTape_0 : decode cX11_putOnTape 0 = .ok (.bipush 24, 2) := by decide +kernel
theorem dX11_putOnTape_2 : decode cX11_putOnTape 2 = .ok (.istore_n 2, 1) := by decide +kernel
theorem dX11_putOnTape_3 : decode cX11_putOnTape 3 = .ok (.iload_n 2, 1) := by decide +kernel
theorem dX11_putOnTape_4 : decode cX11_putOnTape 4 = .ok (.ifCond .lt 42, 3) := by decide +kernel
theorem dX11_putOnTape_7 : decode cX11_putOnTape 7 = .ok (.aload_n 0, 1) := by decide +kernel
theorem dX11_putOnTape_8 : decode cX11_putOnTape 8 = .ok (.getfield 60, 3) := by decide +kernel
theorem dX11_putOnTape_11 : decode cX11_putOnTape 11 = .ok (.sipush 400, 3) := by decide +kernel
theorem dX11_putOnTape_14 : decode cX11_putOnTape 14 = .ok (.if_icmp .ge 32, 3) := by decide +kernel
theorem dX11_putOnTape_17 : decode cX11_putOnTape 17 = .ok (.aload_n 0, 1) := by decide +kernel
theorem dX11_putOnTape_18 : decode cX11_putOnTape 18 = .ok (.getfield 9, 3) := by decide +kernel
theorem dX11_putOnTape_21 : decode cX11_putOnTape 21 = .ok (.aload_n 0, 1) := by decide +kernel
theorem dX11_putOnTape_22 : decode cX11_putOnTape 22 = .ok (.getfield 60, 3) := by decide +kernel
theorem dX11_putOnTape_25 : decode cX11_putOnTape 25 = .ok (.iload_n 1, 1) := by decide +kernel
theorem dX11_putOnTape_26 : decode cX11_putOnTape 26 = .ok (.iload_n 2, 1) := by decide +kernel
theorem dX11_putOnTape_27 : decode cX11_putOnTape 27 = .ok (.ishr, 1) := by decide +kernel
theorem dX11_putOnTape_28 : decode cX11_putOnTape 28 = .ok (.i2b, 1) := by decide +kernel
theorem dX11_putOnTape_29 : decode cX11_putOnTape 29 = .ok (.bastore, 1) := by decide +kernel
theorem dX11_putOnTape_30 : decode cX11_putOnTape 30 = .ok (.aload_n 0, 1) := by decide +kernel
theorem dX11_putOnTape_31 : decode cX11_putOnTape 31 = .ok (.dup, 1) := by decide +kernel
theorem dX11_putOnTape_32 : decode cX11_putOnTape 32 = .ok (.getfield 60, 3) := by decide +kernel
theorem dX11_putOnTape_35 : decode cX11_putOnTape 35 = .ok (.iconst 1, 1) := by decide +kernel
theorem dX11_putOnTape_36 : decode cX11_putOnTape 36 = .ok (.iadd, 1) := by decide +kernel
theorem dX11_putOnTape_37 : decode cX11_putOnTape 37 = .ok (.putfield 60, 3) := by decide +kernel
theorem dX11_putOnTape_40 : decode cX11_putOnTape 40 = .ok (.iinc 2 (-8), 3) := by decide +kernel
theorem dX11_putOnTape_43 : decode cX11_putOnTape 43 = .ok (.goto (-40), 3) := by decide +kernel
theorem dX11_putOnTape_46 : decode cX11_putOnTape 46 = .ok (.return_, 1) := by decide +kernel
set_option maxRecDepth 20000 in
theorem ggX11_scanTape_X10_scan : GoodIn wsX11_scanTape wsX10_scan := goodIn_r _ [8, 9, 10, 11, 12, 13, 14, 15, 16, 17, 18, 19, 20, 7, 21, 22, 23, 24, 25, 26, 27, 28, 29, 30, 31, 32, 33, 34, 35, 36, 37, 38, 39, 40, 41, 42, 43, 44, 45, 46, 47, 48, 49, 50, 51, 52, 53, 54, 55, 56, 57, 58, 59, 60, 61, 62, 63, 64, 65, 66, 67, 68, 69, 70, 71, 72, 73, 74, 75, 76, 77, 78, 79, 80, 81, 82, 83, 84, 85, 86, 87, 88, 89, 90, 91, 92, 93, 94, 95, 96, 97, 98, 99, 100, 101, 102, 103, 104, 115, 116, 117, 118, 119, 120] rfl (by decide +kernel)
set_option maxRecDepth 20000 in
theorem gX11_scanTape_X10_scan : GoodIn wsX11_scanTape (wsV RX11 289 RX10 yX10_scan wsX10_scan) := goodIn_app (goodIn_of _ (by decide +kernel)) ggX11_scanTape_X10_scan
theorem dX11_scanTape_0 : decode cX11_scanTape 0 = .ok (.aload_n 0, 1) := by decide +kernel
theorem dX11_scanTape_1 : decode cX11_scanTape 1 = .ok (.getfield 33, 3) := by decide +kernel
theorem dX11_scanTape_4 : decode cX11_scanTape 4 = .ok (.aload_n 0, 1) := by decide +kernel
theorem dX11_scanTape_5 : decode cX11_scanTape 5 = .ok (.getfield 9, 3) := by decide +kernel
theorem dX11_scanTape_8 : decode cX11_scanTape 8 = .ok (.aload_n 0, 1) := by decide +kernel
theorem dX11_scanTape_9 : decode cX11_scanTape 9 = .ok (.getfield 60, 3) := by decide +kernel
theorem dX11_scanTape_12 : decode cX11_scanTape 12 = .ok (.invokevirtual 289, 3) := by decide +kernel
theorem dX11_scanTape_15 : decode cX11_scanTape 15 = .ok (.aload_n 0, 1) := by decide +kernel
theorem dX11_scanTape_16 : decode cX11_scanTape 16 = .ok (.iconst 0, 1) := by decide +kernel
theorem dX11_scanTape_17 : decode cX11_scanTape 17 = .ok (.putfield 60, 3) := by decide +kernel
theorem dX11_scanTape_20 : decode cX11_scanTape 20 = .ok (.return_, 1) := by decide +kernel
theorem dX11_hasRiver_0 : decode cX11_hasRiver 0 = .ok (.aload_n 0, 1) := by decide +kernel
theorem dX11_hasRiver_1 : decode cX11_hasRiver 1 = .ok (.getfield 22, 3) := by decide +kernel
theorem dX11_hasRiver_4 : decode cX11_hasRiver 4 = .ok (.getfield 93, 3) := by decide +kernel
theorem dX11_hasRiver_7 : decode cX11_hasRiver 7 = .ok (.getfield 140, 3) := by decide +kernel
theorem dX11_hasRiver_10 : decode cX11_hasRiver 10 = .ok (.getfield 82, 3) := by decide +kernel
theorem dX11_hasRiver_13 : decode cX11_hasRiver 13 = .ok (.ifCond .le 7, 3) := by decide +kernel
theorem dX11_hasRiver_16 : decode cX11_hasRiver 16 = .ok (.iconst 1, 1) := by decide +kernel
theorem dX11_hasRiver_17 : decode cX11_hasRiver 17 = .ok (.goto 4, 3) := by decide +kernel
theorem dX11_hasRiver_20 : decode cX11_hasRiver 20 = .ok (.iconst 0, 1) := by decide +kernel
theorem dX11_hasRiver_21 : decode cX11_hasRiver 21 = .ok (.ireturn, 1) := by decide +kernel
theorem dX11_isRule_0 : decode cX11_isRule 0 = .ok (.iload_n 1, 1) := by decide +kernel
theorem dX11_isRule_1 : decode cX11_isRule 1 = .ok (.iconst (-1), 1) := by decide +kernel
theorem dX11_isRule_2 : decode cX11_isRule 2 = .ok (.if_icmp .lt 15, 3) := by decide +kernel
theorem dX11_isRule_5 : decode cX11_isRule 5 = .ok (.iload_n 1, 1) := by decide +kernel
theorem dX11_isRule_6 : decode cX11_isRule 6 = .ok (.aload_n 0, 1) := by decide +kernel
theorem dX11_isRule_7 : decode cX11_isRule 7 = .ok (.getfield 87, 3) := by decide +kernel
theorem dX11_isRule_10 : decode cX11_isRule 10 = .ok (.if_icmp .ge 7, 3) := by decide +kernel
theorem dX11_isRule_13 : decode cX11_isRule 13 = .ok (.iconst 1, 1) := by decide +kernel
theorem dX11_isRule_14 : decode cX11_isRule 14 = .ok (.goto 4, 3) := by decide +kernel
theorem dX11_isRule_17 : decode cX11_isRule 17 = .ok (.iconst 0, 1) := by decide +kernel
theorem dX11_isRule_18 : decode cX11_isRule 18 = .ok (.ireturn, 1) := by decide +kernel
set_option maxRecDepth 20000 in
theorem ggX11_areRulesAtRiver_X11_hasRiver : GoodIn wsX11_areRulesAtRiver wsX11_hasRiver := goodIn_r _ [5, 6, 7, 8, 9, 15, 16, 17, 18, 19, 20, 21, 22, 23, 24, 25, 26, 27, 28, 29, 30, 31, 32, 33, 34, 35, 36, 37, 38, 39, 40, 41, 42, 43] rfl (by decide +kernel)
set_option maxRecDepth 20000 in
theorem gX11_areRulesAtRiver_X11_hasRiver : GoodIn wsX11_areRulesAtRiver (wsV RX11 115 RX11 yX11_hasRiver wsX11_hasRiver) := goodIn_app (goodIn_of _ (by decide +kernel)) ggX11_areRulesAtRiver_X11_hasRiver
set_option maxRecDepth 20000 in
theorem ggX11_areRulesAtRiver_X11_isRule : GoodIn wsX11_areRulesAtRiver wsX11_isRule := goodIn_r _ [13, 14, 15, 16, 17, 18, 19, 20, 21, 22, 23, 24] rfl (by decide +kernel)
set_option maxRecDepth 20000 in
theorem gX11_areRulesAtRiver_X11_isRule : GoodIn wsX11_areRulesAtRiver (wsV RX11 293 RX11 yX11_isRule wsX11_isRule) := goodIn_app (goodIn_of _ (by decide +kernel)) ggX11_areRulesAtRiver_X11_isRule
theorem dX11_areRulesAtRiver_0 : decode cX11_areRulesAtRiver 0 = .ok (.aload_n 0, 1) := by decide +kernel
theorem dX11_areRulesAtRiver_1 : decode cX11_areRulesAtRiver 1 = .ok (.invokevirtual 115, 3) := by decide +kernel
theorem dX11_areRulesAtRiver_4 : decode cX11_areRulesAtRiver 4 = .ok (.ifCond .eq 23, 3) := by decide +kernel
theorem dX11_areRulesAtRiver_7 : decode cX11_areRulesAtRiver 7 = .ok (.aload_n 0, 1) := by decide +kernel
theorem dX11_areRulesAtRiver_8 : decode cX11_areRulesAtRiver 8 = .ok (.iload_n 1, 1) := by decide +kernel
theorem dX11_areRulesAtRiver_9 : decode cX11_areRulesAtRiver 9 = .ok (.invokevirtual 293, 3) := by decide +kernel
theorem dX11_areRulesAtRiver_12 : decode cX11_areRulesAtRiver 12 = .ok (.ifCond .eq 15, 3) := by decide +kernel
theorem dX11_areRulesAtRiver_15 : decode cX11_areRulesAtRiver 15 = .ok (.aload_n 0, 1) := by decide +kernel
theorem dX11_areRulesAtRiver_16 : decode cX11_areRulesAtRiver 16 = .ok (.iload_n 2, 1) := by decide +kernel
theorem dX11_areRulesAtRiver_17 : decode cX11_areRulesAtRiver 17 = .ok (.invokevirtual 293, 3) := by decide +kernel
theorem dX11_areRulesAtRiver_20 : decode cX11_areRulesAtRiver 20 = .ok (.ifCond .eq 7, 3) := by decide +kernel
theorem dX11_areRulesAtRiver_23 : decode cX11_areRulesAtRiver 23 = .ok (.iconst 1, 1) := by decide +kernel
theorem dX11_areRulesAtRiver_24 : decode cX11_areRulesAtRiver 24 = .ok (.goto 4, 3) := by decide +kernel
theorem dX11_areRulesAtRiver_27 : decode cX11_areRulesAtRiver 27 = .ok (.iconst 0, 1) := by decide +kernel
theorem dX11_areRulesAtRiver_28 : decode cX11_areRulesAtRiver 28 = .ok (.ireturn, 1) := by decide +kernel
set_option maxRecDepth 20000 in
theorem ggX11_isFreeHand_X11_hasRiver : GoodIn wsX11_isFreeHand wsX11_hasRiver := goodIn_r _ [7, 1, 2, 8, 9, 30, 31, 32, 33, 34, 35, 36, 37, 38, 39, 40, 41, 42, 43, 44, 45, 46, 47, 48, 49, 50, 51, 52, 53, 54, 55, 56, 57, 58] rfl (by decide +kernel)
set_option maxRecDepth 20000 in
theorem gX11_isFreeHand_X11_hasRiver : GoodIn wsX11_isFreeHand (wsV RX11 115 RX11 yX11_hasRiver wsX11_hasRiver) := goodIn_app (goodIn_of _ (by decide +kernel)) ggX11_isFreeHand_X11_hasRiver
set_option maxRecDepth 20000 in
theorem ggX11_isFreeHand_X11_isSide : GoodIn wsX11_isFreeHand wsX11_isSide := goodIn_r _ [12] rfl (by decide +kernel)
set_option maxRecDepth 20000 in
theorem gX11_isFreeHand_X11_isSide : GoodIn wsX11_isFreeHand (va_wsS RX11 97 yX11_isSide wsX11_isSide) := goodIn_app (goodIn_of _ (by decide +kernel)) ggX11_isFreeHand_X11_isSide
set_option maxRecDepth 20000 in
theorem ggX11_isFreeHand_X11_isRule : GoodIn wsX11_isFreeHand wsX11_isRule := goodIn_r _ [16, 17, 30, 31, 32, 33, 34, 35, 36, 37, 38, 39] rfl (by decide +kernel)
set_option maxRecDepth 20000 in
theorem gX11_isFreeHand_X11_isRule : GoodIn wsX11_isFreeHand (wsV RX11 293 RX11 yX11_isRule wsX11_isRule) := goodIn_app (goodIn_of _ (by decide +kernel)) ggX11_isFreeHand_X11_isRule
set_option maxRecDepth 20000 in
theorem ggX11_isFreeHand_X9_isMet : GoodIn wsX11_isFreeHand wsX9_isMet := goodIn_r _ [22, 23, 24, 25, 21, 26, 27, 28, 29, 45, 46, 47, 48, 49, 50, 51, 52, 53, 54, 55, 56, 57, 58] rfl (by decide +kernel)
set_option maxRecDepth 20000 in
theorem gX11_isFreeHand_X9_isMet : GoodIn wsX11_isFreeHand (wsV RX11 185 RX9 yX9_isMet wsX9_isMet) := goodIn_app (goodIn_of _ (by decide +kernel)) ggX11_isFreeHand_X9_isMet
theorem dX11_isFreeHand_0 : decode cX11_isFreeHand 0 = .ok (.aload_n 0, 1) := by decide +kernel
theorem dX11_isFreeHand_1 : decode cX11_isFreeHand 1 = .ok (.invokevirtual 115, 3) := by decide +kernel
theorem dX11_isFreeHand_4 : decode cX11_isFreeHand 4 = .ok (.ifCond .eq 35, 3) := by decide +kernel
theorem dX11_isFreeHand_7 : decode cX11_isFreeHand 7 = .ok (.iload_n 1, 1) := by decide +kernel
theorem dX11_isFreeHand_8 : decode cX11_isFreeHand 8 = .ok (.invokestatic 97, 3) := by decide +kernel
theorem dX11_isFreeHand_11 : decode cX11_isFreeHand 11 = .ok (.ifCond .eq 28, 3) := by decide +kernel
theorem dX11_isFreeHand_14 : decode cX11_isFreeHand 14 = .ok (.aload_n 0, 1) := by decide +kernel
theorem dX11_isFreeHand_15 : decode cX11_isFreeHand 15 = .ok (.iload_n 2, 1) := by decide +kernel
theorem dX11_isFreeHand_16 : decode cX11_isFreeHand 16 = .ok (.invokevirtual 293, 3) := by decide +kernel
theorem dX11_isFreeHand_19 : decode cX11_isFreeHand 19 = .ok (.ifCond .eq 20, 3) := by decide +kernel
theorem dX11_isFreeHand_22 : decode cX11_isFreeHand 22 = .ok (.aload_n 0, 1) := by decide +kernel
theorem dX11_isFreeHand_23 : decode cX11_isFreeHand 23 = .ok (.getfield 22, 3) := by decide +kernel
theorem dX11_isFreeHand_26 : decode cX11_isFreeHand 26 = .ok (.getfield 93, 3) := by decide +kernel
theorem dX11_isFreeHand_29 : decode cX11_isFreeHand 29 = .ok (.invokevirtual 185, 3) := by decide +kernel
theorem dX11_isFreeHand_32 : decode cX11_isFreeHand 32 = .ok (.ifCond .ne 7, 3) := by decide +kernel
theorem dX11_isFreeHand_35 : decode cX11_isFreeHand 35 = .ok (.iconst 1, 1) := by decide +kernel
theorem dX11_isFreeHand_36 : decode cX11_isFreeHand 36 = .ok (.goto 4, 3) := by decide +kernel
theorem dX11_isFreeHand_39 : decode cX11_isFreeHand 39 = .ok (.iconst 0, 1) := by decide +kernel
theorem dX11_isFreeHand_40 : decode cX11_isFreeHand 40 = .ok (.ireturn, 1) := by decide +kernel
theorem dX11_ruleOf_0 : decode cX11_ruleOf 0 = .ok (.iload_n 1, 1) := by decide +kernel
theorem dX11_ruleOf_1 : decode cX11_ruleOf 1 = .ok (.ifCond .lt 20, 3) := by decide +kernel
theorem dX11_ruleOf_4 : decode cX11_ruleOf 4 = .ok (.iload_n 1, 1) := by decide +kernel
theorem dX11_ruleOf_5 : decode cX11_ruleOf 5 = .ok (.aload_n 0, 1) := by decide +kernel
theorem dX11_ruleOf_6 : decode cX11_ruleOf 6 = .ok (.getfield 87, 3) := by decide +kernel
theorem dX11_ruleOf_9 : decode cX11_ruleOf 9 = .ok (.if_icmp .ge 12, 3) := by decide +kernel
theorem dX11_ruleOf_12 : decode cX11_ruleOf 12 = .ok (.aload_n 0, 1) := by decide +kernel
theorem dX11_ruleOf_13 : decode cX11_ruleOf 13 = .ok (.getfield 15, 3) := by decide +kernel
theorem dX11_ruleOf_16 : decode cX11_ruleOf 16 = .ok (.iload_n 1, 1) := by decide +kernel
theorem dX11_ruleOf_17 : decode cX11_ruleOf 17 = .ok (.aaload, 1) := by decide +kernel
theorem dX11_ruleOf_18 : decode cX11_ruleOf 18 = .ok (.goto 4, 3) := by decide +kernel
theorem dX11_ruleOf_21 : decode cX11_ruleOf 21 = .ok (.aconst_null, 1) := by decide +kernel
theorem dX11_ruleOf_22 : decode cX11_ruleOf 22 = .ok (.areturn, 1) := by decide +kernel
theorem dX11_isSide_0 : decode cX11_isSide 0 = .ok (.iload_n 0, 1) := by decide +kernel
theorem dX11_isSide_1 : decode cX11_isSide 1 = .ok (.ifCond .eq 8, 3) := by decide +kernel
theorem dX11_isSide_4 : decode cX11_isSide 4 = .ok (.iload_n 0, 1) := by decide +kernel
theorem dX11_isSide_5 : decode cX11_isSide 5 = .ok (.iconst 1, 1) := by decide +kernel
theorem dX11_isSide_6 : decode cX11_isSide 6 = .ok (.if_icmp .ne 7, 3) := by decide +kernel
theorem dX11_isSide_9 : decode cX11_isSide 9 = .ok (.iconst 1, 1) := by decide +kernel
theorem dX11_isSide_10 : decode cX11_isSide 10 = .ok (.goto 4, 3) := by decide +kernel
theorem dX11_isSide_13 : decode cX11_isSide 13 = .ok (.iconst 0, 1) := by decide +kernel
theorem dX11_isSide_14 : decode cX11_isSide 14 = .ok (.ireturn, 1) := by decide +kernel
theorem dX11_isWithin_0 : decode cX11_isWithin 0 = .ok (.iload_n 0, 1) := by decide +kernel
theorem dX11_isWithin_1 : decode cX11_isWithin 1 = .ok (.iload_n 1, 1) := by decide +kernel
theorem dX11_isWithin_2 : decode cX11_isWithin 2 = .ok (.if_icmp .lt 12, 3) := by decide +kernel
theorem dX11_isWithin_5 : decode cX11_isWithin 5 = .ok (.iload_n 0, 1) := by decide +kernel
theorem dX11_isWithin_6 : decode cX11_isWithin 6 = .ok (.iload_n 2, 1) := by decide +kernel
theorem dX11_isWithin_7 : decode cX11_isWithin 7 = .ok (.if_icmp .gt 7, 3) := by decide +kernel
theorem dX11_isWithin_10 : decode cX11_isWithin 10 = .ok (.iconst 1, 1) := by decide +kernel
theorem dX11_isWithin_11 : decode cX11_isWithin 11 = .ok (.goto 4, 3) := by decide +kernel
theorem dX11_isWithin_14 : decode cX11_isWithin 14 = .ok (.iconst 0, 1) := by decide +kernel
theorem dX11_isWithin_15 : decode cX11_isWithin 15 = .ok (.ireturn, 1) := by decide +kernel
theorem dX2_init_0 : decode cX2_init 0 = .ok (.aload_n 0, 1) := by decide +kernel
theorem dX2_init_1 : decode cX2_init 1 = .ok (.invokespecial 1, 3) := by decide +kernel
theorem dX2_init_4 : decode cX2_init 4 = .ok (.aload_n 0, 1) := by decide +kernel
theorem dX2_init_5 : decode cX2_init 5 = .ok (.bipush 8, 2) := by decide +kernel
theorem dX2_init_7 : decode cX2_init 7 = .ok (.newarray .int, 2) := by decide +kernel
theorem dX2_init_9 : decode cX2_init 9 = .ok (.putfield 9, 3) := by decide +kernel
theorem dX2_init_12 : decode cX2_init 12 = .ok (.aload_n 0, 1) := by decide +kernel
theorem dX2_init_13 : decode cX2_init 13 = .ok (.bipush 12, 2) := by decide +kernel
theorem dX2_init_15 : decode cX2_init 15 = .ok (.newarray .int, 2) := by decide +kernel
theorem dX2_init_17 : decode cX2_init 17 = .ok (.putfield 13, 3) := by decide +kernel
theorem dX2_init_20 : decode cX2_init 20 = .ok (.aload_n 0, 1) := by decide +kernel
theorem dX2_init_21 : decode cX2_init 21 = .ok (.bipush 8, 2) := by decide +kernel
theorem dX2_init_23 : decode cX2_init 23 = .ok (.newarray .int, 2) := by decide +kernel
theorem dX2_init_25 : decode cX2_init 25 = .ok (.putfield 16, 3) := by decide +kernel
theorem dX2_init_28 : decode cX2_init 28 = .ok (.aload_n 0, 1) := by decide +kernel
theorem dX2_init_29 : decode cX2_init 29 = .ok (.aload_n 1, 1) := by decide +kernel
theorem dX2_init_30 : decode cX2_init 30 = .ok (.putfield 19, 3) := by decide +kernel
theorem dX2_init_33 : decode cX2_init 33 = .ok (.aload_n 0, 1) := by decide +kernel
theorem dX2_init_34 : decode cX2_init 34 = .ok (.aload_n 2, 1) := by decide +kernel
theorem dX2_init_35 : decode cX2_init 35 = .ok (.putfield 23, 3) := by decide +kernel
theorem dX2_init_38 : decode cX2_init 38 = .ok (.return_, 1) := by decide +kernel
set_option maxRecDepth 20000 in
theorem ggX2_hold_J7_fill_53178 : GoodIn wsX2_hold wsJ7_fill_53178 := goodIn_r _ [17] rfl (by decide +kernel)
set_option maxRecDepth 20000 in
theorem gX2_hold_J7_fill_53178 : GoodIn wsX2_hold (va_wsS RX2 54 yJ7_fill_53178 wsJ7_fill_53178) := goodIn_app (goodIn_of _ (by decide +kernel)) ggX2_hold_J7_fill_53178
set_option maxRecDepth 20000 in
theorem ggX2_hold_X9_become : GoodIn wsX2_hold wsX9_become := goodIn_r _ [22, 23, 24, 25, 26, 27, 28, 29, 30, 31, 189, 190, 191, 192, 193] rfl (by decide +kernel)
set_option maxRecDepth 20000 in
theorem gX2_hold_X9_become : GoodIn wsX2_hold (wsV RX2 66 RX9 yX9_become wsX9_become) := goodIn_app (goodIn_of _ (by decide +kernel)) ggX2_hold_X9_become
set_option maxRecDepth 20000 in
theorem ggX2_hold_X2_goDeeper : GoodIn wsX2_hold wsX2_goDeeper := goodIn_r _ [36, 12, 8, 1, 37, 38, 3, 9, 2, 39, 40, 41, 42, 43, 44, 45, 46, 47, 48, 49, 50, 21, 51, 25, 52, 53, 54, 55, 23, 56, 26, 57, 58, 59, 35, 60, 10, 11, 61, 62, 63, 64, 65, 66, 67, 68, 69, 70, 71, 72, 73, 74, 75, 76, 77, 78, 79, 80, 81, 82, 83, 84, 85, 31, 86, 87, 88, 89, 90, 91, 92, 93, 94, 95, 96, 97, 98, 99, 100, 101, 102, 103, 104, 105, 106, 107, 108, 109, 110, 111, 112, 113, 114, 115, 116, 117, 118, 119, 120, 121, 122, 123, 124, 125, 6, 126, 127, 128, 129, 130, 131, 132, 133, 134, 135, 136, 137, 138, 139, 140, 141, 142, 143, 144, 145, 146, 147, 148, 18, 19, 20, 22, 24, 27, 28, 29, 30, 149, 150, 151, 152, 153, 154, 155, 156, 157, 158, 159, 160, 161, 162, 163, 164, 165, 166, 167, 168, 169, 170, 171, 172, 32, 33, 34, 173, 174, 175, 176, 177, 178, 179, 180, 181, 182, 183, 184, 185, 186, 187, 188, 189, 190, 191, 192, 193, 194, 195, 196, 197, 198, 199, 200, 201, 202, 203, 204, 205, 206, 207, 208, 209] rfl (by decide +kernel)
set_option maxRecDepth 20000 in
theorem gX2_hold_X2_goDeeper : GoodIn wsX2_hold (wsV RX2 72 RX2 yX2_goDeeper wsX2_goDeeper) := goodIn_app (goodIn_of _ (by decide +kernel)) ggX2_hold_X2_goDeeper
theorem dX2_hold_0 : decode cX2_hold 0 = .ok (.aload_n 0, 1) := by decide +kernel
theorem dX2_hold_1 : decode cX2_hold 1 = .ok (.aload_n 1, 1) := by decide +kernel
theorem dX2_hold_2 : decode cX2_hold 2 = .ok (.putfield 27, 3) := by decide +kernel
theorem dX2_hold_5 : decode cX2_hold 5 = .ok (.aload_n 0, 1) := by decide +kernel
theorem dX2_hold_6 : decode cX2_hold 6 = .ok (.aload_n 2, 1) := by decide +kernel
theorem dX2_hold_7 : decode cX2_hold 7 = .ok (.putfield 31, 3) := by decide +kernel
theorem dX2_hold_10 : decode cX2_hold 10 = .ok (.aload_n 0, 1) := by decide +kernel
theorem dX2_hold_11 : decode cX2_hold 11 = .ok (.aload_n 3, 1) := by decide +kernel
theorem dX2_hold_12 : decode cX2_hold 12 = .ok (.putfield 35, 3) := by decide +kernel
theorem dX2_hold_15 : decode cX2_hold 15 = .ok (.aload_n 0, 1) := by decide +kernel
theorem dX2_hold_16 : decode cX2_hold 16 = .ok (.iload 4, 2) := by decide +kernel
theorem dX2_hold_18 : decode cX2_hold 18 = .ok (.iconst 4, 1) := by decide +kernel
theorem dX2_hold_19 : decode cX2_hold 19 = .ok (.invokestatic 38, 3) := by decide +kernel
theorem dX2_hold_22 : decode cX2_hold 22 = .ok (.putfield 44, 3) := by decide +kernel
theorem dX2_hold_25 : decode cX2_hold 25 = .ok (.aload_n 0, 1) := by decide +kernel
theorem dX2_hold_26 : decode cX2_hold 26 = .ok (.iload 5, 2) := by decide +kernel
theorem dX2_hold_28 : decode cX2_hold 28 = .ok (.putfield 48, 3) := by decide +kernel
theorem dX2_hold_31 : decode cX2_hold 31 = .ok (.aload_n 0, 1) := by decide +kernel
theorem dX2_hold_32 : decode cX2_hold 32 = .ok (.iconst 0, 1) := by decide +kernel
theorem dX2_hold_33 : decode cX2_hold 33 = .ok (.putfield 51, 3) := by decide +kernel
theorem dX2_hold_36 : decode cX2_hold 36 = .ok (.aload_n 0, 1) := by decide +kernel
theorem dX2_hold_37 : decode cX2_hold 37 = .ok (.getfield 16, 3) := by decide +kernel
theorem dX2_hold_40 : decode cX2_hold 40 = .ok (.iconst 0, 1) := by decide +kernel
theorem dX2_hold_41 : decode cX2_hold 41 = .ok (.invokestatic 54, 3) := by decide +kernel
theorem dX2_hold_44 : decode cX2_hold 44 = .ok (.aload_n 0, 1) := by decide +kernel
theorem dX2_hold_45 : decode cX2_hold 45 = .ok (.getfield 23, 3) := by decide +kernel
theorem dX2_hold_48 : decode cX2_hold 48 = .ok (.iconst 0, 1) := by decide +kernel
theorem dX2_hold_49 : decode cX2_hold 49 = .ok (.aaload, 1) := by decide +kernel
theorem dX2_hold_50 : decode cX2_hold 50 = .ok (.aload_n 1, 1) := by decide +kernel
theorem dX2_hold_51 : decode cX2_hold 51 = .ok (.getfield 60, 3) := by decide +kernel
theorem dX2_hold_54 : decode cX2_hold 54 = .ok (.invokevirtual 66, 3) := by decide +kernel
theorem dX2_hold_57 : decode cX2_hold 57 = .ok (.aload_n 0, 1) := by decide +kernel
theorem dX2_hold_58 : decode cX2_hold 58 = .ok (.iconst 0, 1) := by decide +kernel
theorem dX2_hold_59 : decode cX2_hold 59 = .ok (.invokevirtual 72, 3) := by decide +kernel
theorem dX2_hold_62 : decode cX2_hold 62 = .ok (.return_, 1) := by decide +kernel
theorem dX2_verdict_0 : decode cX2_verdict 0 = .ok (.iload_n 1, 1) := by decide +kernel
theorem dX2_verdict_1 : decode cX2_verdict 1 = .ok (.ifCond .lt 21, 3) := by decide +kernel
theorem dX2_verdict_4 : decode cX2_verdict 4 = .ok (.iload_n 1, 1) := by decide +kernel
theorem dX2_verdict_5 : decode cX2_verdict 5 = .ok (.aload_n 0, 1) := by decide +kernel
theorem dX2_verdict_6 : decode cX2_verdict 6 = .ok (.getfield 16, 3) := by decide +kernel
theorem dX2_verdict_9 : decode cX2_verdict 9 = .ok (.arraylength, 1) := by decide +kernel
theorem dX2_verdict_10 : decode cX2_verdict 10 = .ok (.if_icmp .ge 12, 3) := by decide +kernel
theorem dX2_verdict_13 : decode cX2_verdict 13 = .ok (.aload_n 0, 1) := by decide +kernel
theorem dX2_verdict_14 : decode cX2_verdict 14 = .ok (.getfield 16, 3) := by decide +kernel
theorem dX2_verdict_17 : decode cX2_verdict 17 = .ok (.iload_n 1, 1) := by decide +kernel
theorem dX2_verdict_18 : decode cX2_verdict 18 = .ok (.iaload, 1) := by decide +kernel
theorem dX2_verdict_19 : decode cX2_verdict 19 = .ok (.goto 4, 3) := by decide +kernel
theorem dX2_verdict_22 : decode cX2_verdict 22 = .ok (.iconst 0, 1) := by decide +kernel
theorem dX2_verdict_23 : decode cX2_verdict 23 = .ok (.istore_n 2, 1) := by decide +kernel
theorem dX2_verdict_24 : decode cX2_verdict 24 = .ok (.iload_n 2, 1) := by decide +kernel
theorem dX2_verdict_25 : decode cX2_verdict 25 = .ok (.ifCond .ne 5, 3) := by decide +kernel
theorem dX2_verdict_28 : decode cX2_verdict 28 = .ok (.iconst 0, 1) := by decide +kernel
theorem dX2_verdict_29 : decode cX2_verdict 29 = .ok (.ireturn, 1) := by decide +kernel
theorem dX2_verdict_30 : decode cX2_verdict 30 = .ok (.iload_n 2, 1) := by decide +kernel
theorem dX2_verdict_31 : decode cX2_verdict 31 = .ok (.aload_n 0, 1) := by decide +kernel
theorem dX2_verdict_32 : decode cX2_verdict 32 = .ok (.getfield 51, 3) := by decide +kernel
theorem dX2_verdict_35 : decode cX2_verdict 35 = .ok (.if_icmp .ne 7, 3) := by decide +kernel
theorem dX2_verdict_38 : decode cX2_verdict 38 = .ok (.iconst 2, 1) := by decide +kernel
theorem dX2_verdict_39 : decode cX2_verdict 39 = .ok (.goto 4, 3) := by decide +kernel
theorem dX2_verdict_42 : decode cX2_verdict 42 = .ok (.iconst 1, 1) := by decide +kernel
theorem dX2_verdict_43 : decode cX2_verdict 43 = .ok (.ireturn, 1) := by decide +kernel
set_option maxRecDepth 20000 in
theorem ggX2_goDeeper_X8_areRuinsOf : GoodIn wsX2_goDeeper wsX8_areRuinsOf := goodIn_r _ [14, 15, 16, 17, 18, 19, 20, 21, 22, 23, 24, 25, 26, 27, 28, 29, 30, 175, 176, 177, 178, 179, 180, 181, 182, 183, 184, 185, 186, 187, 188, 189, 190, 191, 192, 193] rfl (by decide +kernel)
set_option maxRecDepth 20000 in
theorem gX2_goDeeper_X8_areRuinsOf : GoodIn wsX2_goDeeper (wsV RX2 76 RX8 yX8_areRuinsOf wsX8_areRuinsOf) := goodIn_app (goodIn_of _ (by decide +kernel)) ggX2_goDeeper_X8_areRuinsOf
set_option maxRecDepth 20000 in
theorem ggX2_goDeeper_X2_tally : GoodIn wsX2_goDeeper wsX2_tally := goodIn_r _ [35, 36, 2, 9, 37, 164, 165, 166, 167, 168, 169, 170, 171, 172, 173, 174] rfl (by decide +kernel)
set_option maxRecDepth 20000 in
theorem gX2_goDeeper_X2_tally : GoodIn wsX2_goDeeper (wsV RX2 80 RX2 yX2_tally wsX2_tally) := goodIn_app (goodIn_of _ (by decide +kernel)) ggX2_goDeeper_X2_tally
set_option maxRecDepth 20000 in
theorem ggX2_goDeeper_X3_planOf : GoodIn wsX2_goDeeper wsX3_planOf := goodIn_r _ [42, 43, 44, 45, 46, 21, 47, 48, 49, 50, 41, 51, 52, 53, 54, 55, 56, 57, 23, 28, 29, 30, 58, 59, 60, 61, 62, 63, 64, 65, 66, 67, 68, 69, 70, 71, 72, 73, 74, 75, 76, 77, 78, 79, 80, 81, 82, 83, 84, 85, 86, 87, 88, 24, 25, 26, 27, 89, 90, 91, 92, 93, 94, 95, 96, 97, 98, 99, 100, 101, 102, 103, 104, 105, 106, 107, 108, 109, 110, 111, 112, 113, 114, 115, 116, 117, 118, 119, 120, 121, 122, 123, 180, 181, 182, 183, 184, 185, 186, 187, 188, 189, 190, 191, 192, 193, 194, 195, 196, 197, 198, 199, 200] rfl (by decide +kernel)
set_option maxRecDepth 20000 in
theorem gX2_goDeeper_X3_planOf : GoodIn wsX2_goDeeper (wsV RX2 83 RX3 yX3_planOf wsX3_planOf) := goodIn_app (goodIn_of _ (by decide +kernel)) ggX2_goDeeper_X3_planOf
set_option maxRecDepth 20000 in
theorem ggX2_goDeeper_X2_goDay : GoodIn wsX2_goDeeper wsX2_goDay := goodIn_r _ [127, 128, 129, 130, 21, 131, 28, 132, 23, 30, 133, 134, 135, 136, 63, 137, 138, 139, 140, 70, 71, 72, 73, 74, 141, 142, 143, 144, 145, 146, 147, 148, 149, 103, 104, 105, 150, 151, 152, 153, 69, 55, 56, 57, 29, 79, 59, 60, 61, 62, 154, 155, 156, 157, 158, 159, 160, 180, 181, 182, 183, 184, 185, 186, 187, 188, 189, 190, 191, 192, 193] rfl (by decide +kernel)
set_option maxRecDepth 20000 in
theorem gX2_goDeeper_X2_goDay : GoodIn wsX2_goDeeper (wsV RX2 89 RX2 yX2_goDay wsX2_goDay) := goodIn_app (goodIn_of _ (by decide +kernel)) ggX2_goDeeper_X2_goDay
set_option maxRecDepth 20000 in
theorem ggX2_goDeeper_X2_goDeeper : GoodIn wsX2_goDeeper wsX2_goDeeper := goodIn_r _ [0, 1, 2, 3, 4, 5, 6, 7, 8, 9, 10, 11, 12, 13, 14, 15, 16, 17, 18, 19, 20, 21, 22, 23, 24, 25, 26, 27, 28, 29, 30, 31, 32, 33, 34, 35, 36, 37, 38, 39, 40, 41, 42, 43, 44, 45, 46, 47, 48, 49, 50, 51, 52, 53, 54, 55, 56, 57, 58, 59, 60, 61, 62, 63, 64, 65, 66, 67, 68, 69, 70, 71, 72, 73, 74, 75, 76, 77, 78, 79, 80, 81, 82, 83, 84, 85, 86, 87, 88, 89, 90, 91, 92, 93, 94, 95, 96, 97, 98, 99, 100, 101, 102, 103, 104, 105, 106, 107, 108, 109, 110, 111, 112, 113, 114, 115, 116, 117, 118, 119, 120, 121, 122, 123, 124, 125, 126, 127, 128, 129, 130, 131, 132, 133, 134, 135, 136, 137, 138, 139, 140, 141, 142, 143, 144, 145, 146, 147, 148, 149, 150, 151, 152, 153, 154, 155, 156, 157, 158, 159, 160, 161, 162, 163, 164, 165, 166, 167, 168, 169, 170, 171, 172, 173, 174, 175, 176, 177, 178, 179, 180, 181, 182, 183, 184, 185, 186, 187, 188, 189, 190, 191, 192, 193, 194, 195, 196, 197, 198, 199, 200] rfl (by decide +kernel)
set_option maxRecDepth 20000 in
theorem gX2_goDeeper_X2_goDeeper : GoodIn wsX2_goDeeper (wsV RX2 72 RX2 yX2_goDeeper wsX2_goDeeper) := goodIn_app (goodIn_of _ (by decide +kernel)) ggX2_goDeeper_X2_goDeeper
theorem dX2_goDeeper_0 : decode cX2_goDeeper 0 = .ok (.aload_n 0, 1) := by decide +kernel
theorem dX2_goDeeper_1 : decode cX2_goDeeper 1 = .ok (.getfield 23, 3) := by decide +kernel
theorem dX2_goDeeper_4 : decode cX2_goDeeper 4 = .ok (.iload_n 1, 1) := by decide +kernel
theorem dX2_goDeeper_5 : decode cX2_goDeeper 5 = .ok (.aaload, 1) := by decide +kernel
theorem dX2_goDeeper_6 : decode cX2_goDeeper 6 = .ok (.astore_n 2, 1) := by decide +kernel
theorem dX2_goDeeper_7 : decode cX2_goDeeper 7 = .ok (.iload_n 1, 1) := by decide +kernel
theorem dX2_goDeeper_8 : decode cX2_goDeeper 8 = .ok (.aload_n 0, 1) := by decide +kernel
theorem dX2_goDeeper_9 : decode cX2_goDeeper 9 = .ok (.getfield 44, 3) := by decide +kernel
theorem dX2_goDeeper_12 : decode cX2_goDeeper 12 = .ok (.if_icmp .lt 19, 3) := by decide +kernel
theorem dX2_goDeeper_15 : decode cX2_goDeeper 15 = .ok (.aload_n 0, 1) := by decide +kernel
theorem dX2_goDeeper_16 : decode cX2_goDeeper 16 = .ok (.getfield 27, 3) := by decide +kernel
theorem dX2_goDeeper_19 : decode cX2_goDeeper 19 = .ok (.aload_n 2, 1) := by decide +kernel
theorem dX2_goDeeper_20 : decode cX2_goDeeper 20 = .ok (.invokevirtual 76, 3) := by decide +kernel
theorem dX2_goDeeper_23 : decode cX2_goDeeper 23 = .ok (.ifCond .eq 7, 3) := by decide +kernel
theorem dX2_goDeeper_26 : decode cX2_goDeeper 26 = .ok (.aload_n 0, 1) := by decide +kernel
theorem dX2_goDeeper_27 : decode cX2_goDeeper 27 = .ok (.invokevirtual 80, 3) := by decide +kernel
theorem dX2_goDeeper_30 : decode cX2_goDeeper 30 = .ok (.return_, 1) := by decide +kernel
theorem dX2_goDeeper_31 : decode cX2_goDeeper 31 = .ok (.iconst (-1), 1) := by decide +kernel
theorem dX2_goDeeper_32 : decode cX2_goDeeper 32 = .ok (.istore_n 3, 1) := by decide +kernel
theorem dX2_goDeeper_33 : decode cX2_goDeeper 33 = .ok (.iload_n 3, 1) := by decide +kernel
theorem dX2_goDeeper_34 : decode cX2_goDeeper 34 = .ok (.iconst 1, 1) := by decide +kernel
theorem dX2_goDeeper_35 : decode cX2_goDeeper 35 = .ok (.if_icmp .gt 40, 3) := by decide +kernel
theorem dX2_goDeeper_38 : decode cX2_goDeeper 38 = .ok (.aload_n 0, 1) := by decide +kernel
theorem dX2_goDeeper_39 : decode cX2_goDeeper 39 = .ok (.getfield 13, 3) := by decide +kernel
theorem dX2_goDeeper_42 : decode cX2_goDeeper 42 = .ok (.iconst 3, 1) := by decide +kernel
theorem dX2_goDeeper_43 : decode cX2_goDeeper 43 = .ok (.iload_n 1, 1) := by decide +kernel
theorem dX2_goDeeper_44 : decode cX2_goDeeper 44 = .ok (.imul, 1) := by decide +kernel
theorem dX2_goDeeper_45 : decode cX2_goDeeper 45 = .ok (.iconst 1, 1) := by decide +kernel
theorem dX2_goDeeper_46 : decode cX2_goDeeper 46 = .ok (.iadd, 1) := by decide +kernel
theorem dX2_goDeeper_47 : decode cX2_goDeeper 47 = .ok (.iload_n 3, 1) := by decide +kernel
theorem dX2_goDeeper_48 : decode cX2_goDeeper 48 = .ok (.iadd, 1) := by decide +kernel
theorem dX2_goDeeper_49 : decode cX2_goDeeper 49 = .ok (.aload_n 0, 1) := by decide +kernel
theorem dX2_goDeeper_50 : decode cX2_goDeeper 50 = .ok (.getfield 19, 3) := by decide +kernel
theorem dX2_goDeeper_53 : decode cX2_goDeeper 53 = .ok (.aload_n 2, 1) := by decide +kernel
theorem dX2_goDeeper_54 : decode cX2_goDeeper 54 = .ok (.aload_n 0, 1) := by decide +kernel
theorem dX2_goDeeper_55 : decode cX2_goDeeper 55 = .ok (.getfield 35, 3) := by decide +kernel
theorem dX2_goDeeper_58 : decode cX2_goDeeper 58 = .ok (.iconst 1, 1) := by decide +kernel
theorem dX2_goDeeper_59 : decode cX2_goDeeper 59 = .ok (.iload_n 3, 1) := by decide +kernel
theorem dX2_goDeeper_60 : decode cX2_goDeeper 60 = .ok (.aload_n 0, 1) := by decide +kernel
theorem dX2_goDeeper_61 : decode cX2_goDeeper 61 = .ok (.getfield 48, 3) := by decide +kernel
theorem dX2_goDeeper_64 : decode cX2_goDeeper 64 = .ok (.imul, 1) := by decide +kernel
theorem dX2_goDeeper_65 : decode cX2_goDeeper 65 = .ok (.invokevirtual 83, 3) := by decide +kernel
theorem dX2_goDeeper_68 : decode cX2_goDeeper 68 = .ok (.iastore, 1) := by decide +kernel
theorem dX2_goDeeper_69 : decode cX2_goDeeper 69 = .ok (.iinc 3 1, 3) := by decide +kernel
theorem dX2_goDeeper_72 : decode cX2_goDeeper 72 = .ok (.goto (-39), 3) := by decide +kernel
theorem dX2_goDeeper_75 : decode cX2_goDeeper 75 = .ok (.iconst (-1), 1) := by decide +kernel
theorem dX2_goDeeper_76 : decode cX2_goDeeper 76 = .ok (.istore_n 3, 1) := by decide +kernel
theorem dX2_goDeeper_77 : decode cX2_goDeeper 77 = .ok (.iload_n 3, 1) := by decide +kernel
theorem dX2_goDeeper_78 : decode cX2_goDeeper 78 = .ok (.iconst 1, 1) := by decide +kernel
theorem dX2_goDeeper_79 : decode cX2_goDeeper 79 = .ok (.if_icmp .gt 101, 3) := by decide +kernel
theorem dX2_goDeeper_82 : decode cX2_goDeeper 82 = .ok (.aload_n 0, 1) := by decide +kernel
theorem dX2_goDeeper_83 : decode cX2_goDeeper 83 = .ok (.getfield 19, 3) := by decide +kernel
theorem dX2_goDeeper_86 : decode cX2_goDeeper 86 = .ok (.aload_n 2, 1) := by decide +kernel
theorem dX2_goDeeper_87 : decode cX2_goDeeper 87 = .ok (.aload_n 0, 1) := by decide +kernel
theorem dX2_goDeeper_88 : decode cX2_goDeeper 88 = .ok (.getfield 31, 3) := by decide +kernel
theorem dX2_goDeeper_91 : decode cX2_goDeeper 91 = .ok (.iconst 0, 1) := by decide +kernel
theorem dX2_goDeeper_92 : decode cX2_goDeeper 92 = .ok (.iload_n 3, 1) := by decide +kernel
theorem dX2_goDeeper_93 : decode cX2_goDeeper 93 = .ok (.aload_n 0, 1) := by decide +kernel
theorem dX2_goDeeper_94 : decode cX2_goDeeper 94 = .ok (.getfield 48, 3) := by decide +kernel
theorem dX2_goDeeper_97 : decode cX2_goDeeper 97 = .ok (.imul, 1) := by decide +kernel
theorem dX2_goDeeper_98 : decode cX2_goDeeper 98 = .ok (.invokevirtual 83, 3) := by decide +kernel
theorem dX2_goDeeper_101 : decode cX2_goDeeper 101 = .ok (.istore 4, 2) := by decide +kernel
theorem dX2_goDeeper_103 : decode cX2_goDeeper 103 = .ok (.iconst (-1), 1) := by decide +kernel
theorem dX2_goDeeper_104 : decode cX2_goDeeper 104 = .ok (.istore 5, 2) := by decide +kernel
theorem dX2_goDeeper_106 : decode cX2_goDeeper 106 = .ok (.iload 5, 2) := by decide +kernel
theorem dX2_goDeeper_108 : decode cX2_goDeeper 108 = .ok (.iconst 1, 1) := by decide +kernel
theorem dX2_goDeeper_109 : decode cX2_goDeeper 109 = .ok (.if_icmp .gt 65, 3) := by decide +kernel
theorem dX2_goDeeper_112 : decode cX2_goDeeper 112 = .ok (.aload_n 0, 1) := by decide +kernel
theorem dX2_goDeeper_113 : decode cX2_goDeeper 113 = .ok (.getfield 9, 3) := by decide +kernel
theorem dX2_goDeeper_116 : decode cX2_goDeeper 116 = .ok (.iconst 2, 1) := by decide +kernel
theorem dX2_goDeeper_117 : decode cX2_goDeeper 117 = .ok (.iload_n 1, 1) := by decide +kernel
theorem dX2_goDeeper_118 : decode cX2_goDeeper 118 = .ok (.imul, 1) := by decide +kernel
theorem dX2_goDeeper_119 : decode cX2_goDeeper 119 = .ok (.iload_n 3, 1) := by decide +kernel
theorem dX2_goDeeper_120 : decode cX2_goDeeper 120 = .ok (.iastore, 1) := by decide +kernel
theorem dX2_goDeeper_121 : decode cX2_goDeeper 121 = .ok (.aload_n 0, 1) := by decide +kernel
theorem dX2_goDeeper_122 : decode cX2_goDeeper 122 = .ok (.getfield 9, 3) := by decide +kernel
theorem dX2_goDeeper_125 : decode cX2_goDeeper 125 = .ok (.iconst 2, 1) := by decide +kernel
theorem dX2_goDeeper_126 : decode cX2_goDeeper 126 = .ok (.iload_n 1, 1) := by decide +kernel
theorem dX2_goDeeper_127 : decode cX2_goDeeper 127 = .ok (.imul, 1) := by decide +kernel
theorem dX2_goDeeper_128 : decode cX2_goDeeper 128 = .ok (.iconst 1, 1) := by decide +kernel
theorem dX2_goDeeper_129 : decode cX2_goDeeper 129 = .ok (.iadd, 1) := by decide +kernel
theorem dX2_goDeeper_130 : decode cX2_goDeeper 130 = .ok (.iload 5, 2) := by decide +kernel
theorem dX2_goDeeper_132 : decode cX2_goDeeper 132 = .ok (.iastore, 1) := by decide +kernel
theorem dX2_goDeeper_133 : decode cX2_goDeeper 133 = .ok (.aload_n 0, 1) := by decide +kernel
theorem dX2_goDeeper_134 : decode cX2_goDeeper 134 = .ok (.aload_n 2, 1) := by decide +kernel
theorem dX2_goDeeper_135 : decode cX2_goDeeper 135 = .ok (.aload_n 0, 1) := by decide +kernel
theorem dX2_goDeeper_136 : decode cX2_goDeeper 136 = .ok (.getfield 23, 3) := by decide +kernel
theorem dX2_goDeeper_139 : decode cX2_goDeeper 139 = .ok (.iload_n 1, 1) := by decide +kernel
theorem dX2_goDeeper_140 : decode cX2_goDeeper 140 = .ok (.iconst 1, 1) := by decide +kernel
theorem dX2_goDeeper_141 : decode cX2_goDeeper 141 = .ok (.iadd, 1) := by decide +kernel
theorem dX2_goDeeper_142 : decode cX2_goDeeper 142 = .ok (.aaload, 1) := by decide +kernel
theorem dX2_goDeeper_143 : decode cX2_goDeeper 143 = .ok (.iload 4, 2) := by decide +kernel
theorem dX2_goDeeper_145 : decode cX2_goDeeper 145 = .ok (.aload_n 0, 1) := by decide +kernel
theorem dX2_goDeeper_146 : decode cX2_goDeeper 146 = .ok (.getfield 13, 3) := by decide +kernel
theorem dX2_goDeeper_149 : decode cX2_goDeeper 149 = .ok (.iconst 3, 1) := by decide +kernel
theorem dX2_goDeeper_150 : decode cX2_goDeeper 150 = .ok (.iload_n 1, 1) := by decide +kernel
theorem dX2_goDeeper_151 : decode cX2_goDeeper 151 = .ok (.imul, 1) := by decide +kernel
theorem dX2_goDeeper_152 : decode cX2_goDeeper 152 = .ok (.iconst 1, 1) := by decide +kernel
theorem dX2_goDeeper_153 : decode cX2_goDeeper 153 = .ok (.iadd, 1) := by decide +kernel
theorem dX2_goDeeper_154 : decode cX2_goDeeper 154 = .ok (.iload 5, 2) := by decide +kernel
theorem dX2_goDeeper_156 : decode cX2_goDeeper 156 = .ok (.iadd, 1) := by decide +kernel
theorem dX2_goDeeper_157 : decode cX2_goDeeper 157 = .ok (.iaload, 1) := by decide +kernel
theorem dX2_goDeeper_158 : decode cX2_goDeeper 158 = .ok (.invokevirtual 89, 3) := by decide +kernel
theorem dX2_goDeeper_161 : decode cX2_goDeeper 161 = .ok (.aload_n 0, 1) := by decide +kernel
theorem dX2_goDeeper_162 : decode cX2_goDeeper 162 = .ok (.iload_n 1, 1) := by decide +kernel
theorem dX2_goDeeper_163 : decode cX2_goDeeper 163 = .ok (.iconst 1, 1) := by decide +kernel
theorem dX2_goDeeper_164 : decode cX2_goDeeper 164 = .ok (.iadd, 1) := by decide +kernel
theorem dX2_goDeeper_165 : decode cX2_goDeeper 165 = .ok (.invokevirtual 72, 3) := by decide +kernel
theorem dX2_goDeeper_168 : decode cX2_goDeeper 168 = .ok (.iinc 5 1, 3) := by decide +kernel
theorem dX2_goDeeper_171 : decode cX2_goDeeper 171 = .ok (.goto (-65), 3) := by decide +kernel
theorem dX2_goDeeper_174 : decode cX2_goDeeper 174 = .ok (.iinc 3 1, 3) := by decide +kernel
theorem dX2_goDeeper_177 : decode cX2_goDeeper 177 = .ok (.goto (-100), 3) := by decide +kernel
theorem dX2_goDeeper_180 : decode cX2_goDeeper 180 = .ok (.return_, 1) := by decide +kernel
set_option maxRecDepth 20000 in
theorem ggX2_goDay_X9_become : GoodIn wsX2_goDay wsX9_become := goodIn_r _ [5, 6, 7, 8, 9, 10, 11, 12, 13, 14, 57, 58, 59, 60, 61] rfl (by decide +kernel)
set_option maxRecDepth 20000 in
theorem gX2_goDay_X9_become : GoodIn wsX2_goDay (wsV RX2 66 RX9 yX9_become wsX9_become) := goodIn_app (goodIn_of _ (by decide +kernel)) ggX2_goDay_X9_become
set_option maxRecDepth 20000 in
theorem ggX2_goDay_X9_isMet : GoodIn wsX2_goDay wsX9_isMet := goodIn_r _ [18, 19, 20, 21, 4, 22, 6, 23, 8, 57, 58, 59, 60, 61, 62, 63, 64, 65, 66, 67, 68, 69, 70] rfl (by decide +kernel)
set_option maxRecDepth 20000 in
theorem gX2_goDay_X9_isMet : GoodIn wsX2_goDay (wsV RX2 93 RX9 yX9_isMet wsX9_isMet) := goodIn_app (goodIn_of _ (by decide +kernel)) ggX2_goDay_X9_isMet
set_option maxRecDepth 20000 in
theorem ggX2_goDay_X9_act : GoodIn wsX2_goDay wsX9_act := goodIn_r _ [27, 28, 29, 30, 4, 31, 8, 32, 33, 34, 35, 36, 37, 38, 39, 9, 14, 19, 20, 21, 22, 6, 23, 40, 41, 42, 43, 44, 45, 46, 47, 48, 49, 57, 58, 59, 60, 61, 62, 63, 64, 65, 66, 67, 68, 69, 70] rfl (by decide +kernel)
set_option maxRecDepth 20000 in
theorem gX2_goDay_X9_act : GoodIn wsX2_goDay (wsV RX2 97 RX9 yX9_act wsX9_act) := goodIn_app (goodIn_of _ (by decide +kernel)) ggX2_goDay_X9_act
set_option maxRecDepth 20000 in
theorem ggX2_goDay_X9_endDay : GoodIn wsX2_goDay wsX9_endDay := goodIn_r _ [53, 6, 54, 55, 7, 56, 28, 29, 30, 4, 31, 8, 32, 33, 34, 35, 57, 58, 59, 60, 61, 62, 63, 64, 65, 66, 67, 68, 69, 70] rfl (by decide +kernel)
set_option maxRecDepth 20000 in
theorem gX2_goDay_X9_endDay : GoodIn wsX2_goDay (wsV RX2 101 RX9 yX9_endDay wsX9_endDay) := goodIn_app (goodIn_of _ (by decide +kernel)) ggX2_goDay_X9_endDay
theorem dX2_goDay_0 : decode cX2_goDay 0 = .ok (.aload_n 2, 1) := by decide +kernel
theorem dX2_goDay_1 : decode cX2_goDay 1 = .ok (.aload_n 1, 1) := by decide +kernel
theorem dX2_goDay_2 : decode cX2_goDay 2 = .ok (.invokevirtual 66, 3) := by decide +kernel
theorem dX2_goDay_5 : decode cX2_goDay 5 = .ok (.aload_n 2, 1) := by decide +kernel
theorem dX2_goDay_6 : decode cX2_goDay 6 = .ok (.invokevirtual 93, 3) := by decide +kernel
theorem dX2_goDay_9 : decode cX2_goDay 9 = .ok (.ifCond .ne 20, 3) := by decide +kernel
theorem dX2_goDay_12 : decode cX2_goDay 12 = .ok (.aload_n 2, 1) := by decide +kernel
theorem dX2_goDay_13 : decode cX2_goDay 13 = .ok (.iconst 0, 1) := by decide +kernel
theorem dX2_goDay_14 : decode cX2_goDay 14 = .ok (.iload_n 3, 1) := by decide +kernel
theorem dX2_goDay_15 : decode cX2_goDay 15 = .ok (.invokevirtual 97, 3) := by decide +kernel
theorem dX2_goDay_18 : decode cX2_goDay 18 = .ok (.aload_n 2, 1) := by decide +kernel
theorem dX2_goDay_19 : decode cX2_goDay 19 = .ok (.iconst 1, 1) := by decide +kernel
theorem dX2_goDay_20 : decode cX2_goDay 20 = .ok (.iload 4, 2) := by decide +kernel
theorem dX2_goDay_22 : decode cX2_goDay 22 = .ok (.invokevirtual 97, 3) := by decide +kernel
theorem dX2_goDay_25 : decode cX2_goDay 25 = .ok (.aload_n 2, 1) := by decide +kernel
theorem dX2_goDay_26 : decode cX2_goDay 26 = .ok (.invokevirtual 101, 3) := by decide +kernel
theorem dX2_goDay_29 : decode cX2_goDay 29 = .ok (.return_, 1) := by decide +kernel
theorem dX2_tally_0 : decode cX2_tally 0 = .ok (.aload_n 0, 1) := by decide +kernel
theorem dX2_tally_1 : decode cX2_tally 1 = .ok (.dup, 1) := by decide +kernel
theorem dX2_tally_2 : decode cX2_tally 2 = .ok (.getfield 51, 3) := by decide +kernel
theorem dX2_tally_5 : decode cX2_tally 5 = .ok (.iconst 1, 1) := by decide +kernel
theorem dX2_tally_6 : decode cX2_tally 6 = .ok (.iadd, 1) := by decide +kernel
theorem dX2_tally_7 : decode cX2_tally 7 = .ok (.putfield 51, 3) := by decide +kernel
theorem dX2_tally_10 : decode cX2_tally 10 = .ok (.iconst 0, 1) := by decide +kernel
theorem dX2_tally_11 : decode cX2_tally 11 = .ok (.istore_n 1, 1) := by decide +kernel
theorem dX2_tally_12 : decode cX2_tally 12 = .ok (.iload_n 1, 1) := by decide +kernel
theorem dX2_tally_13 : decode cX2_tally 13 = .ok (.iconst 2, 1) := by decide +kernel
theorem dX2_tally_14 : decode cX2_tally 14 = .ok (.aload_n 0, 1) := by decide +kernel
theorem dX2_tally_15 : decode cX2_tally 15 = .ok (.getfield 44, 3) := by decide +kernel
theorem dX2_tally_18 : decode cX2_tally 18 = .ok (.imul, 1) := by decide +kernel
theorem dX2_tally_19 : decode cX2_tally 19 = .ok (.if_icmp .ge 28, 3) := by decide +kernel
theorem dX2_tally_22 : decode cX2_tally 22 = .ok (.aload_n 0, 1) := by decide +kernel
theorem dX2_tally_23 : decode cX2_tally 23 = .ok (.getfield 9, 3) := by decide +kernel
theorem dX2_tally_26 : decode cX2_tally 26 = .ok (.iload_n 1, 1) := by decide +kernel
theorem dX2_tally_27 : decode cX2_tally 27 = .ok (.iaload, 1) := by decide +kernel
theorem dX2_tally_28 : decode cX2_tally 28 = .ok (.ifCond .eq 13, 3) := by decide +kernel
theorem dX2_tally_31 : decode cX2_tally 31 = .ok (.aload_n 0, 1) := by decide +kernel
theorem dX2_tally_32 : decode cX2_tally 32 = .ok (.getfield 16, 3) := by decide +kernel
theorem dX2_tally_35 : decode cX2_tally 35 = .ok (.iload_n 1, 1) := by decide +kernel
theorem dX2_tally_36 : decode cX2_tally 36 = .ok (.dup2, 1) := by decide +kernel
theorem dX2_tally_37 : decode cX2_tally 37 = .ok (.iaload, 1) := by decide +kernel
theorem dX2_tally_38 : decode cX2_tally 38 = .ok (.iconst 1, 1) := by decide +kernel
theorem dX2_tally_39 : decode cX2_tally 39 = .ok (.iadd, 1) := by decide +kernel
theorem dX2_tally_40 : decode cX2_tally 40 = .ok (.iastore, 1) := by decide +kernel
theorem dX2_tally_41 : decode cX2_tally 41 = .ok (.iinc 1 1, 3) := by decide +kernel
theorem dX2_tally_44 : decode cX2_tally 44 = .ok (.goto (-32), 3) := by decide +kernel
theorem dX2_tally_47 : decode cX2_tally 47 = .ok (.return_, 1) := by decide +kernel
theorem dX3_init_0 : decode cX3_init 0 = .ok (.aload_n 0, 1) := by decide +kernel
theorem dX3_init_1 : decode cX3_init 1 = .ok (.invokespecial 1, 3) := by decide +kernel
theorem dX3_init_4 : decode cX3_init 4 = .ok (.aload_n 0, 1) := by decide +kernel
theorem dX3_init_5 : decode cX3_init 5 = .ok (.bipush 9, 2) := by decide +kernel
theorem dX3_init_7 : decode cX3_init 7 = .ok (.newarray .long, 2) := by decide +kernel
theorem dX3_init_9 : decode cX3_init 9 = .ok (.putfield 9, 3) := by decide +kernel
theorem dX3_init_12 : decode cX3_init 12 = .ok (.aload_n 0, 1) := by decide +kernel
theorem dX3_init_13 : decode cX3_init 13 = .ok (.bipush 64, 2) := by decide +kernel
theorem dX3_init_15 : decode cX3_init 15 = .ok (.newarray .long, 2) := by decide +kernel
theorem dX3_init_17 : decode cX3_init 17 = .ok (.putfield 15, 3) := by decide +kernel
theorem dX3_init_20 : decode cX3_init 20 = .ok (.return_, 1) := by decide +kernel
set_option maxRecDepth 20000 in
theorem ggX3_planOf_X9_planOfYard : GoodIn wsX3_planOf wsX9_planOfYard := goodIn_r _ [6] rfl (by decide +kernel)
set_option maxRecDepth 20000 in
theorem gX3_planOf_X9_planOfYard : GoodIn wsX3_planOf (va_wsS RX3 18 yX9_planOfYard wsX9_planOfYard) := goodIn_app (goodIn_of _ (by decide +kernel)) ggX3_planOf_X9_planOfYard
set_option maxRecDepth 20000 in
theorem ggX3_planOf_X3_look : GoodIn wsX3_planOf wsX3_look := goodIn_r _ [11, 12, 13, 14, 15, 16, 5, 17, 18, 19, 20, 21, 22, 23, 24, 25, 26, 27, 28, 29, 30, 31, 32, 33, 34, 35, 36, 37, 38, 39, 40, 41, 42, 43, 44, 45, 46, 47, 48, 49, 50, 51, 52, 53, 54, 55, 56, 106, 107, 92, 93, 94, 95, 96, 97, 98, 99, 100, 101, 102, 103, 104, 105] rfl (by decide +kernel)
set_option maxRecDepth 20000 in
theorem gX3_planOf_X3_look : GoodIn wsX3_planOf (wsV RX3 24 RX3 yX3_look wsX3_look) := goodIn_app (goodIn_of _ (by decide +kernel)) ggX3_planOf_X3_look
set_option maxRecDepth 20000 in
theorem ggX3_planOf_X3_someHolds : GoodIn wsX3_planOf wsX3_someHolds := goodIn_r _ [60, 61, 62, 63, 64, 65, 66, 67, 68, 10, 69, 70, 71, 72, 73, 74, 75, 76, 77, 78, 12, 79, 80, 81, 108, 109, 110, 111, 112, 106, 107] rfl (by decide +kernel)
set_option maxRecDepth 20000 in
theorem gX3_planOf_X3_someHolds : GoodIn wsX3_planOf (wsV RX3 28 RX3 yX3_someHolds wsX3_someHolds) := goodIn_app (goodIn_of _ (by decide +kernel)) ggX3_planOf_X3_someHolds
set_option maxRecDepth 20000 in
theorem ggX3_planOf_X3_firstSum : GoodIn wsX3_planOf wsX3_firstSum := goodIn_r _ [85, 61, 64, 65, 62, 63, 86, 87, 72, 88, 89, 90, 91, 66, 67, 68, 10, 69, 70, 71, 73, 74, 75, 76, 77, 78, 12, 79, 80, 81, 108, 109, 110, 111, 112, 106, 107] rfl (by decide +kernel)
set_option maxRecDepth 20000 in
theorem gX3_planOf_X3_firstSum : GoodIn wsX3_planOf (wsV RX3 42 RX3 yX3_firstSum wsX3_firstSum) := goodIn_app (goodIn_of _ (by decide +kernel)) ggX3_planOf_X3_firstSum
theorem dX3_planOf_0 : decode cX3_planOf 0 = .ok (.aload_n 2, 1) := by decide +kernel
theorem dX3_planOf_1 : decode cX3_planOf 1 = .ok (.ifnonnull 9, 3) := by decide +kernel
theorem dX3_planOf_4 : decode cX3_planOf 4 = .ok (.iconst 0, 1) := by decide +kernel
theorem dX3_planOf_5 : decode cX3_planOf 5 = .ok (.iconst 0, 1) := by decide +kernel
theorem dX3_planOf_6 : decode cX3_planOf 6 = .ok (.invokestatic 18, 3) := by decide +kernel
theorem dX3_planOf_9 : decode cX3_planOf 9 = .ok (.ireturn, 1) := by decide +kernel
theorem dX3_planOf_10 : decode cX3_planOf 10 = .ok (.aload_n 0, 1) := by decide +kernel
theorem dX3_planOf_11 : decode cX3_planOf 11 = .ok (.aload_n 1, 1) := by decide +kernel
theorem dX3_planOf_12 : decode cX3_planOf 12 = .ok (.iload_n 3, 1) := by decide +kernel
theorem dX3_planOf_13 : decode cX3_planOf 13 = .ok (.iload 4, 2) := by decide +kernel
theorem dX3_planOf_15 : decode cX3_planOf 15 = .ok (.invokevirtual 24, 3) := by decide +kernel
theorem dX3_planOf_18 : decode cX3_planOf 18 = .ok (.aload_n 0, 1) := by decide +kernel
theorem dX3_planOf_19 : decode cX3_planOf 19 = .ok (.aload_n 2, 1) := by decide +kernel
theorem dX3_planOf_20 : decode cX3_planOf 20 = .ok (.sipush 265, 3) := by decide +kernel
theorem dX3_planOf_23 : decode cX3_planOf 23 = .ok (.invokevirtual 28, 3) := by decide +kernel
theorem dX3_planOf_26 : decode cX3_planOf 26 = .ok (.ifCond .eq 5, 3) := by decide +kernel
theorem dX3_planOf_29 : decode cX3_planOf 29 = .ok (.iconst (-1), 1) := by decide +kernel
theorem dX3_planOf_30 : decode cX3_planOf 30 = .ok (.ireturn, 1) := by decide +kernel
theorem dX3_planOf_31 : decode cX3_planOf 31 = .ok (.aload_n 0, 1) := by decide +kernel
theorem dX3_planOf_32 : decode cX3_planOf 32 = .ok (.aload_n 2, 1) := by decide +kernel
theorem dX3_planOf_33 : decode cX3_planOf 33 = .ok (.sipush 264, 3) := by decide +kernel
theorem dX3_planOf_36 : decode cX3_planOf 36 = .ok (.invokevirtual 28, 3) := by decide +kernel
theorem dX3_planOf_39 : decode cX3_planOf 39 = .ok (.ifCond .eq 6, 3) := by decide +kernel
theorem dX3_planOf_42 : decode cX3_planOf 42 = .ok (.bipush (-2), 2) := by decide +kernel
theorem dX3_planOf_44 : decode cX3_planOf 44 = .ok (.ireturn, 1) := by decide +kernel
theorem dX3_planOf_45 : decode cX3_planOf 45 = .ok (.aload_n 1, 1) := by decide +kernel
theorem dX3_planOf_46 : decode cX3_planOf 46 = .ok (.getfield 32, 3) := by decide +kernel
theorem dX3_planOf_49 : decode cX3_planOf 49 = .ok (.getfield 36, 3) := by decide +kernel
theorem dX3_planOf_52 : decode cX3_planOf 52 = .ok (.istore 5, 2) := by decide +kernel
theorem dX3_planOf_54 : decode cX3_planOf 54 = .ok (.aload_n 0, 1) := by decide +kernel
theorem dX3_planOf_55 : decode cX3_planOf 55 = .ok (.aload_n 2, 1) := by decide +kernel
theorem dX3_planOf_56 : decode cX3_planOf 56 = .ok (.sipush 262, 3) := by decide +kernel
theorem dX3_planOf_59 : decode cX3_planOf 59 = .ok (.iload 5, 2) := by decide +kernel
theorem dX3_planOf_61 : decode cX3_planOf 61 = .ok (.invokevirtual 42, 3) := by decide +kernel
theorem dX3_planOf_64 : decode cX3_planOf 64 = .ok (.aload_n 0, 1) := by decide +kernel
theorem dX3_planOf_65 : decode cX3_planOf 65 = .ok (.aload_n 2, 1) := by decide +kernel
theorem dX3_planOf_66 : decode cX3_planOf 66 = .ok (.sipush 263, 3) := by decide +kernel
theorem dX3_planOf_69 : decode cX3_planOf 69 = .ok (.iload 5, 2) := by decide +kernel
theorem dX3_planOf_71 : decode cX3_planOf 71 = .ok (.invokevirtual 42, 3) := by decide +kernel
theorem dX3_planOf_74 : decode cX3_planOf 74 = .ok (.invokestatic 18, 3) := by decide +kernel
theorem dX3_planOf_77 : decode cX3_planOf 77 = .ok (.ireturn, 1) := by decide +kernel
set_option maxRecDepth 20000 in
theorem ggX3_look_X9_tipLine : GoodIn wsX3_look wsX9_tipLine := goodIn_r _ [7, 8, 9, 10, 11, 49, 50, 51, 52, 53, 54, 55, 56, 57, 58, 59, 60, 61, 62] rfl (by decide +kernel)
set_option maxRecDepth 20000 in
theorem gX3_look_X9_tipLine : GoodIn wsX3_look (wsV RX3 46 RX9 yX9_tipLine wsX9_tipLine) := goodIn_app (goodIn_of _ (by decide +kernel)) ggX3_look_X9_tipLine
set_option maxRecDepth 20000 in
theorem ggX3_look_X9_tipHeight : GoodIn wsX3_look wsX9_tipHeight := goodIn_r _ [15, 8, 9, 16, 17, 49, 50, 51, 52, 53, 54, 55, 56, 57, 58, 59, 60, 61, 62] rfl (by decide +kernel)
set_option maxRecDepth 20000 in
theorem gX3_look_X9_tipHeight : GoodIn wsX3_look (wsV RX3 50 RX9 yX9_tipHeight wsX9_tipHeight) := goodIn_app (goodIn_of _ (by decide +kernel)) ggX3_look_X9_tipHeight
set_option maxRecDepth 20000 in
theorem ggX3_look_X9_seenLine : GoodIn wsX3_look wsX9_seenLine := goodIn_r _ [21, 9, 22, 23, 4, 5, 6, 7, 8, 10, 11, 24, 25, 26, 27, 28, 49, 50, 51, 52, 53, 54, 55, 56, 57, 58, 59, 60, 61, 62] rfl (by decide +kernel)
set_option maxRecDepth 20000 in
theorem gX3_look_X9_seenLine : GoodIn wsX3_look (wsV RX3 53 RX9 yX9_seenLine wsX9_seenLine) := goodIn_app (goodIn_of _ (by decide +kernel)) ggX3_look_X9_seenLine
set_option maxRecDepth 20000 in
theorem ggX3_look_X9_seenHeight : GoodIn wsX3_look wsX9_seenHeight := goodIn_r _ [32, 9, 22, 33, 13, 14, 6, 15, 8, 16, 17, 24, 25, 26, 27, 28, 49, 50, 51, 52, 53, 54, 55, 56, 57, 58, 59, 60, 61, 62] rfl (by decide +kernel)
set_option maxRecDepth 20000 in
theorem gX3_look_X9_seenHeight : GoodIn wsX3_look (wsV RX3 56 RX9 yX9_seenHeight wsX9_seenHeight) := goodIn_app (goodIn_of _ (by decide +kernel)) ggX3_look_X9_seenHeight
set_option maxRecDepth 20000 in
theorem ggX3_look_X9_gap : GoodIn wsX3_look wsX9_gap := goodIn_r _ [27, 9, 28, 8, 49, 50, 51, 52, 53, 54, 55, 56, 57, 58, 59, 60, 61, 62] rfl (by decide +kernel)
set_option maxRecDepth 20000 in
theorem gX3_look_X9_gap : GoodIn wsX3_look (wsV RX3 59 RX9 yX9_gap wsX9_gap) := goodIn_app (goodIn_of _ (by decide +kernel)) ggX3_look_X9_gap
set_option maxRecDepth 20000 in
theorem ggX3_look_X9_yardsOf : GoodIn wsX3_look wsX9_yardsOf := goodIn_r _ [38, 8, 49, 50, 51, 52, 53] rfl (by decide +kernel)
set_option maxRecDepth 20000 in
theorem gX3_look_X9_yardsOf : GoodIn wsX3_look (wsV RX3 66 RX9 yX9_yardsOf wsX9_yardsOf) := goodIn_app (goodIn_of _ (by decide +kernel)) ggX3_look_X9_yardsOf
set_option maxRecDepth 20000 in
theorem ggX3_look_X9_lastTurn : GoodIn wsX3_look wsX9_lastTurn := goodIn_r _ [42, 8, 23, 4, 5, 6, 7, 9, 10, 11, 43, 44, 45, 46, 49, 50, 51, 52, 53, 54, 55, 56, 57, 58, 59, 60, 61, 62] rfl (by decide +kernel)
set_option maxRecDepth 20000 in
theorem gX3_look_X9_lastTurn : GoodIn wsX3_look (wsV RX3 69 RX9 yX9_lastTurn wsX9_lastTurn) := goodIn_app (goodIn_of _ (by decide +kernel)) ggX3_look_X9_lastTurn
theorem dX3_look_0 : decode cX3_look 0 = .ok (.aload_n 0, 1) := by decide +kernel
theorem dX3_look_1 : decode cX3_look 1 = .ok (.getfield 9, 3) := by decide +kernel
theorem dX3_look_4 : decode cX3_look 4 = .ok (.iconst 0, 1) := by decide +kernel
theorem dX3_look_5 : decode cX3_look 5 = .ok (.iload_n 2, 1) := by decide +kernel
theorem dX3_look_6 : decode cX3_look 6 = .ok (.i2l, 1) := by decide +kernel
theorem dX3_look_7 : decode cX3_look 7 = .ok (.lastore, 1) := by decide +kernel
theorem dX3_look_8 : decode cX3_look 8 = .ok (.aload_n 0, 1) := by decide +kernel
theorem dX3_look_9 : decode cX3_look 9 = .ok (.getfield 9, 3) := by decide +kernel
theorem dX3_look_12 : decode cX3_look 12 = .ok (.iconst 1, 1) := by decide +kernel
theorem dX3_look_13 : decode cX3_look 13 = .ok (.aload_n 1, 1) := by decide +kernel
theorem dX3_look_14 : decode cX3_look 14 = .ok (.iload_n 2, 1) := by decide +kernel
theorem dX3_look_15 : decode cX3_look 15 = .ok (.invokevirtual 46, 3) := by decide +kernel
theorem dX3_look_18 : decode cX3_look 18 = .ok (.i2l, 1) := by decide +kernel
theorem dX3_look_19 : decode cX3_look 19 = .ok (.lastore, 1) := by decide +kernel
theorem dX3_look_20 : decode cX3_look 20 = .ok (.aload_n 0, 1) := by decide +kernel
theorem dX3_look_21 : decode cX3_look 21 = .ok (.getfield 9, 3) := by decide +kernel
theorem dX3_look_24 : decode cX3_look 24 = .ok (.iconst 2, 1) := by decide +kernel
theorem dX3_look_25 : decode cX3_look 25 = .ok (.aload_n 1, 1) := by decide +kernel
theorem dX3_look_26 : decode cX3_look 26 = .ok (.iload_n 2, 1) := by decide +kernel
theorem dX3_look_27 : decode cX3_look 27 = .ok (.invokevirtual 50, 3) := by decide +kernel
theorem dX3_look_30 : decode cX3_look 30 = .ok (.i2l, 1) := by decide +kernel
theorem dX3_look_31 : decode cX3_look 31 = .ok (.lastore, 1) := by decide +kernel
theorem dX3_look_32 : decode cX3_look 32 = .ok (.aload_n 0, 1) := by decide +kernel
theorem dX3_look_33 : decode cX3_look 33 = .ok (.getfield 9, 3) := by decide +kernel
theorem dX3_look_36 : decode cX3_look 36 = .ok (.iconst 3, 1) := by decide +kernel
theorem dX3_look_37 : decode cX3_look 37 = .ok (.aload_n 1, 1) := by decide +kernel
theorem dX3_look_38 : decode cX3_look 38 = .ok (.iload_n 2, 1) := by decide +kernel
theorem dX3_look_39 : decode cX3_look 39 = .ok (.iload_n 3, 1) := by decide +kernel
theorem dX3_look_40 : decode cX3_look 40 = .ok (.invokevirtual 53, 3) := by decide +kernel
theorem dX3_look_43 : decode cX3_look 43 = .ok (.i2l, 1) := by decide +kernel
theorem dX3_look_44 : decode cX3_look 44 = .ok (.lastore, 1) := by decide +kernel
theorem dX3_look_45 : decode cX3_look 45 = .ok (.aload_n 0, 1) := by decide +kernel
theorem dX3_look_46 : decode cX3_look 46 = .ok (.getfield 9, 3) := by decide +kernel
theorem dX3_look_49 : decode cX3_look 49 = .ok (.iconst 4, 1) := by decide +kernel
theorem dX3_look_50 : decode cX3_look 50 = .ok (.aload_n 1, 1) := by decide +kernel
theorem dX3_look_51 : decode cX3_look 51 = .ok (.iload_n 2, 1) := by decide +kernel
theorem dX3_look_52 : decode cX3_look 52 = .ok (.iload_n 3, 1) := by decide +kernel
theorem dX3_look_53 : decode cX3_look 53 = .ok (.invokevirtual 56, 3) := by decide +kernel
theorem dX3_look_56 : decode cX3_look 56 = .ok (.i2l, 1) := by decide +kernel
theorem dX3_look_57 : decode cX3_look 57 = .ok (.lastore, 1) := by decide +kernel
theorem dX3_look_58 : decode cX3_look 58 = .ok (.aload_n 0, 1) := by decide +kernel
theorem dX3_look_59 : decode cX3_look 59 = .ok (.getfield 9, 3) := by decide +kernel
theorem dX3_look_62 : decode cX3_look 62 = .ok (.iconst 5, 1) := by decide +kernel
theorem dX3_look_63 : decode cX3_look 63 = .ok (.aload_n 1, 1) := by decide +kernel
theorem dX3_look_64 : decode cX3_look 64 = .ok (.invokevirtual 59, 3) := by decide +kernel
theorem dX3_look_67 : decode cX3_look 67 = .ok (.i2l, 1) := by decide +kernel
theorem dX3_look_68 : decode cX3_look 68 = .ok (.lastore, 1) := by decide +kernel
theorem dX3_look_69 : decode cX3_look 69 = .ok (.aload_n 0, 1) := by decide +kernel
theorem dX3_look_70 : decode cX3_look 70 = .ok (.getfield 9, 3) := by decide +kernel
theorem dX3_look_73 : decode cX3_look 73 = .ok (.bipush 6, 2) := by decide +kernel
theorem dX3_look_75 : decode cX3_look 75 = .ok (.aload_n 1, 1) := by decide +kernel
theorem dX3_look_76 : decode cX3_look 76 = .ok (.getfield 63, 3) := by decide +kernel
theorem dX3_look_79 : decode cX3_look 79 = .ok (.i2l, 1) := by decide +kernel
theorem dX3_look_80 : decode cX3_look 80 = .ok (.lastore, 1) := by decide +kernel
theorem dX3_look_81 : decode cX3_look 81 = .ok (.aload_n 0, 1) := by decide +kernel
theorem dX3_look_82 : decode cX3_look 82 = .ok (.getfield 9, 3) := by decide +kernel
theorem dX3_look_85 : decode cX3_look 85 = .ok (.bipush 7, 2) := by decide +kernel
theorem dX3_look_87 : decode cX3_look 87 = .ok (.aload_n 1, 1) := by decide +kernel
theorem dX3_look_88 : decode cX3_look 88 = .ok (.iload_n 2, 1) := by decide +kernel
theorem dX3_look_89 : decode cX3_look 89 = .ok (.invokevirtual 66, 3) := by decide +kernel
theorem dX3_look_92 : decode cX3_look 92 = .ok (.i2l, 1) := by decide +kernel
theorem dX3_look_93 : decode cX3_look 93 = .ok (.lastore, 1) := by decide +kernel
theorem dX3_look_94 : decode cX3_look 94 = .ok (.aload_n 0, 1) := by decide +kernel
theorem dX3_look_95 : decode cX3_look 95 = .ok (.getfield 9, 3) := by decide +kernel
theorem dX3_look_98 : decode cX3_look 98 = .ok (.bipush 8, 2) := by decide +kernel
theorem dX3_look_100 : decode cX3_look 100 = .ok (.aload_n 1, 1) := by decide +kernel
theorem dX3_look_101 : decode cX3_look 101 = .ok (.iload_n 2, 1) := by decide +kernel
theorem dX3_look_102 : decode cX3_look 102 = .ok (.invokevirtual 69, 3) := by decide +kernel
theorem dX3_look_105 : decode cX3_look 105 = .ok (.i2l, 1) := by decide +kernel
theorem dX3_look_106 : decode cX3_look 106 = .ok (.lastore, 1) := by decide +kernel
theorem dX3_look_107 : decode cX3_look 107 = .ok (.return_, 1) := by decide +kernel
set_option maxRecDepth 20000 in
theorem ggX3_someHolds_X3_worth : GoodIn wsX3_someHolds wsX3_worth := goodIn_r _ [10, 11, 12, 13, 14, 15, 16, 17, 18, 9, 19, 20, 21, 22, 23, 29, 30] rfl (by decide +kernel)
set_option maxRecDepth 20000 in
theorem gX3_someHolds_X3_worth : GoodIn wsX3_someHolds (wsV RX3 90 RX3 yX3_worth wsX3_worth) := goodIn_app (goodIn_of _ (by decide +kernel)) ggX3_someHolds_X3_worth
theorem dX3_someHolds_0 : decode cX3_someHolds 0 = .ok (.iconst 0, 1) := by decide +kernel
theorem dX3_someHolds_1 : decode cX3_someHolds 1 = .ok (.istore_n 3, 1) := by decide +kernel
theorem dX3_someHolds_2 : decode cX3_someHolds 2 = .ok (.iload_n 3, 1) := by decide +kernel
theorem dX3_someHolds_3 : decode cX3_someHolds 3 = .ok (.aload_n 1, 1) := by decide +kernel
theorem dX3_someHolds_4 : decode cX3_someHolds 4 = .ok (.getfield 72, 3) := by decide +kernel
theorem dX3_someHolds_7 : decode cX3_someHolds 7 = .ok (.if_icmp .ge 48, 3) := by decide +kernel
theorem dX3_someHolds_10 : decode cX3_someHolds 10 = .ok (.aload_n 1, 1) := by decide +kernel
theorem dX3_someHolds_11 : decode cX3_someHolds 11 = .ok (.getfield 77, 3) := by decide +kernel
theorem dX3_someHolds_14 : decode cX3_someHolds 14 = .ok (.iload_n 3, 1) := by decide +kernel
theorem dX3_someHolds_15 : decode cX3_someHolds 15 = .ok (.iaload, 1) := by decide +kernel
theorem dX3_someHolds_16 : decode cX3_someHolds 16 = .ok (.iload_n 2, 1) := by decide +kernel
theorem dX3_someHolds_17 : decode cX3_someHolds 17 = .ok (.if_icmp .ne 32, 3) := by decide +kernel
theorem dX3_someHolds_20 : decode cX3_someHolds 20 = .ok (.aload_n 0, 1) := by decide +kernel
theorem dX3_someHolds_21 : decode cX3_someHolds 21 = .ok (.aload_n 1, 1) := by decide +kernel
theorem dX3_someHolds_22 : decode cX3_someHolds 22 = .ok (.getfield 81, 3) := by decide +kernel
theorem dX3_someHolds_25 : decode cX3_someHolds 25 = .ok (.aload_n 1, 1) := by decide +kernel
theorem dX3_someHolds_26 : decode cX3_someHolds 26 = .ok (.getfield 84, 3) := by decide +kernel
theorem dX3_someHolds_29 : decode cX3_someHolds 29 = .ok (.iload_n 3, 1) := by decide +kernel
theorem dX3_someHolds_30 : decode cX3_someHolds 30 = .ok (.iaload, 1) := by decide +kernel
theorem dX3_someHolds_31 : decode cX3_someHolds 31 = .ok (.aload_n 1, 1) := by decide +kernel
theorem dX3_someHolds_32 : decode cX3_someHolds 32 = .ok (.getfield 87, 3) := by decide +kernel
theorem dX3_someHolds_35 : decode cX3_someHolds 35 = .ok (.iload_n 3, 1) := by decide +kernel
theorem dX3_someHolds_36 : decode cX3_someHolds 36 = .ok (.iconst 1, 1) := by decide +kernel
theorem dX3_someHolds_37 : decode cX3_someHolds 37 = .ok (.iadd, 1) := by decide +kernel
theorem dX3_someHolds_38 : decode cX3_someHolds 38 = .ok (.iaload, 1) := by decide +kernel
theorem dX3_someHolds_39 : decode cX3_someHolds 39 = .ok (.invokevirtual 90, 3) := by decide +kernel
theorem dX3_someHolds_42 : decode cX3_someHolds 42 = .ok (.lconst 0, 1) := by decide +kernel
theorem dX3_someHolds_43 : decode cX3_someHolds 43 = .ok (.lcmp, 1) := by decide +kernel
theorem dX3_someHolds_44 : decode cX3_someHolds 44 = .ok (.ifCond .eq 5, 3) := by decide +kernel
theorem dX3_someHolds_47 : decode cX3_someHolds 47 = .ok (.iconst 1, 1) := by decide +kernel
theorem dX3_someHolds_48 : decode cX3_someHolds 48 = .ok (.ireturn, 1) := by decide +kernel
theorem dX3_someHolds_49 : decode cX3_someHolds 49 = .ok (.iinc 3 1, 3) := by decide +kernel
theorem dX3_someHolds_52 : decode cX3_someHolds 52 = .ok (.goto (-50), 3) := by decide +kernel
theorem dX3_someHolds_55 : decode cX3_someHolds 55 = .ok (.iconst 0, 1) := by decide +kernel
theorem dX3_someHolds_56 : decode cX3_someHolds 56 = .ok (.ireturn, 1) := by decide +kernel
set_option maxRecDepth 20000 in
theorem ggX3_firstSum_X3_worth : GoodIn wsX3_firstSum wsX3_worth := goodIn_r _ [17, 18, 19, 8, 20, 21, 22, 23, 24, 16, 25, 26, 27, 28, 29, 35, 36] rfl (by decide +kernel)
set_option maxRecDepth 20000 in
theorem gX3_firstSum_X3_worth : GoodIn wsX3_firstSum (wsV RX3 90 RX3 yX3_worth wsX3_worth) := goodIn_app (goodIn_of _ (by decide +kernel)) ggX3_firstSum_X3_worth
theorem dX3_firstSum_0 : decode cX3_firstSum 0 = .ok (.iconst 0, 1) := by decide +kernel
theorem dX3_firstSum_1 : decode cX3_firstSum 1 = .ok (.istore 4, 2) := by decide +kernel
theorem dX3_firstSum_3 : decode cX3_firstSum 3 = .ok (.iload 4, 2) := by decide +kernel
theorem dX3_firstSum_5 : decode cX3_firstSum 5 = .ok (.aload_n 1, 1) := by decide +kernel
theorem dX3_firstSum_6 : decode cX3_firstSum 6 = .ok (.getfield 72, 3) := by decide +kernel
theorem dX3_firstSum_9 : decode cX3_firstSum 9 = .ok (.if_icmp .ge 94, 3) := by decide +kernel
theorem dX3_firstSum_12 : decode cX3_firstSum 12 = .ok (.aload_n 1, 1) := by decide +kernel
theorem dX3_firstSum_13 : decode cX3_firstSum 13 = .ok (.getfield 84, 3) := by decide +kernel
theorem dX3_firstSum_16 : decode cX3_firstSum 16 = .ok (.iload 4, 2) := by decide +kernel
theorem dX3_firstSum_18 : decode cX3_firstSum 18 = .ok (.iaload, 1) := by decide +kernel
theorem dX3_firstSum_19 : decode cX3_firstSum 19 = .ok (.istore 5, 2) := by decide +kernel
theorem dX3_firstSum_21 : decode cX3_firstSum 21 = .ok (.aload_n 1, 1) := by decide +kernel
theorem dX3_firstSum_22 : decode cX3_firstSum 22 = .ok (.getfield 87, 3) := by decide +kernel
theorem dX3_firstSum_25 : decode cX3_firstSum 25 = .ok (.iload 4, 2) := by decide +kernel
theorem dX3_firstSum_27 : decode cX3_firstSum 27 = .ok (.iconst 1, 1) := by decide +kernel
theorem dX3_firstSum_28 : decode cX3_firstSum 28 = .ok (.iadd, 1) := by decide +kernel
theorem dX3_firstSum_29 : decode cX3_firstSum 29 = .ok (.iaload, 1) := by decide +kernel
theorem dX3_firstSum_30 : decode cX3_firstSum 30 = .ok (.istore 6, 2) := by decide +kernel
theorem dX3_firstSum_32 : decode cX3_firstSum 32 = .ok (.aload_n 1, 1) := by decide +kernel
theorem dX3_firstSum_33 : decode cX3_firstSum 33 = .ok (.getfield 77, 3) := by decide +kernel
theorem dX3_firstSum_36 : decode cX3_firstSum 36 = .ok (.iload 4, 2) := by decide +kernel
theorem dX3_firstSum_38 : decode cX3_firstSum 38 = .ok (.iaload, 1) := by decide +kernel
theorem dX3_firstSum_39 : decode cX3_firstSum 39 = .ok (.iload_n 2, 1) := by decide +kernel
theorem dX3_firstSum_40 : decode cX3_firstSum 40 = .ok (.if_icmp .ne 57, 3) := by decide +kernel
theorem dX3_firstSum_43 : decode cX3_firstSum 43 = .ok (.iload 5, 2) := by decide +kernel
theorem dX3_firstSum_45 : decode cX3_firstSum 45 = .ok (.iload 6, 2) := by decide +kernel
theorem dX3_firstSum_47 : decode cX3_firstSum 47 = .ok (.if_icmp .eq 20, 3) := by decide +kernel
theorem dX3_firstSum_50 : decode cX3_firstSum 50 = .ok (.aload_n 0, 1) := by decide +kernel
theorem dX3_firstSum_51 : decode cX3_firstSum 51 = .ok (.aload_n 1, 1) := by decide +kernel
theorem dX3_firstSum_52 : decode cX3_firstSum 52 = .ok (.getfield 81, 3) := by decide +kernel
theorem dX3_firstSum_55 : decode cX3_firstSum 55 = .ok (.iload 5, 2) := by decide +kernel
theorem dX3_firstSum_57 : decode cX3_firstSum 57 = .ok (.iload 6, 2) := by decide +kernel
theorem dX3_firstSum_59 : decode cX3_firstSum 59 = .ok (.invokevirtual 90, 3) := by decide +kernel
theorem dX3_firstSum_62 : decode cX3_firstSum 62 = .ok (.lconst 0, 1) := by decide +kernel
theorem dX3_firstSum_63 : decode cX3_firstSum 63 = .ok (.lcmp, 1) := by decide +kernel
theorem dX3_firstSum_64 : decode cX3_firstSum 64 = .ok (.ifCond .eq 33, 3) := by decide +kernel
theorem dX3_firstSum_67 : decode cX3_firstSum 67 = .ok (.iload_n 3, 1) := by decide +kernel
theorem dX3_firstSum_68 : decode cX3_firstSum 68 = .ok (.ineg, 1) := by decide +kernel
theorem dX3_firstSum_69 : decode cX3_firstSum 69 = .ok (.i2l, 1) := by decide +kernel
theorem dX3_firstSum_70 : decode cX3_firstSum 70 = .ok (.iload_n 3, 1) := by decide +kernel
theorem dX3_firstSum_71 : decode cX3_firstSum 71 = .ok (.i2l, 1) := by decide +kernel
theorem dX3_firstSum_72 : decode cX3_firstSum 72 = .ok (.aload_n 0, 1) := by decide +kernel
theorem dX3_firstSum_73 : decode cX3_firstSum 73 = .ok (.aload_n 1, 1) := by decide +kernel
theorem dX3_firstSum_74 : decode cX3_firstSum 74 = .ok (.getfield 81, 3) := by decide +kernel
theorem dX3_firstSum_77 : decode cX3_firstSum 77 = .ok (.aload_n 1, 1) := by decide +kernel
theorem dX3_firstSum_78 : decode cX3_firstSum 78 = .ok (.getfield 87, 3) := by decide +kernel
theorem dX3_firstSum_81 : decode cX3_firstSum 81 = .ok (.iload 4, 2) := by decide +kernel
theorem dX3_firstSum_83 : decode cX3_firstSum 83 = .ok (.iaload, 1) := by decide +kernel
theorem dX3_firstSum_84 : decode cX3_firstSum 84 = .ok (.iload 5, 2) := by decide +kernel
theorem dX3_firstSum_86 : decode cX3_firstSum 86 = .ok (.invokevirtual 90, 3) := by decide +kernel
theorem dX3_firstSum_89 : decode cX3_firstSum 89 = .ok (.invokestatic 94, 3) := by decide +kernel
theorem dX3_firstSum_92 : decode cX3_firstSum 92 = .ok (.invokestatic 100, 3) := by decide +kernel
theorem dX3_firstSum_95 : decode cX3_firstSum 95 = .ok (.l2i, 1) := by decide +kernel
theorem dX3_firstSum_96 : decode cX3_firstSum 96 = .ok (.ireturn, 1) := by decide +kernel
theorem dX3_firstSum_97 : decode cX3_firstSum 97 = .ok (.iinc 4 1, 3) := by decide +kernel
theorem dX3_firstSum_100 : decode cX3_firstSum 100 = .ok (.goto (-97), 3) := by decide +kernel
theorem dX3_firstSum_103 : decode cX3_firstSum 103 = .ok (.iconst 0, 1) := by decide +kernel
theorem dX3_firstSum_104 : decode cX3_firstSum 104 = .ok (.ireturn, 1) := by decide +kernel
set_option maxRecDepth 20000 in
theorem ggX3_worth_X3_wordOf : GoodIn wsX3_worth wsX3_wordOf := goodIn_r _ [10, 11, 15, 16] rfl (by decide +kernel)
set_option maxRecDepth 20000 in
theorem gX3_worth_X3_wordOf : GoodIn wsX3_worth (wsV RX3 105 RX3 yX3_wordOf wsX3_wordOf) := goodIn_app (goodIn_of _ (by decide +kernel)) ggX3_worth_X3_wordOf
set_option maxRecDepth 20000 in
theorem ggX3_worth_X3_joined : GoodIn wsX3_worth wsX3_joined := goodIn_r _ [14] rfl (by decide +kernel)
set_option maxRecDepth 20000 in
theorem gX3_worth_X3_joined : GoodIn wsX3_worth (va_wsS RX3 109 yX3_joined wsX3_joined) := goodIn_app (goodIn_of _ (by decide +kernel)) ggX3_worth_X3_joined
theorem dX3_worth_0 : decode cX3_worth 0 = .ok (.iconst 0, 1) := by decide +kernel
theorem dX3_worth_1 : decode cX3_worth 1 = .ok (.istore 4, 2) := by decide +kernel
theorem dX3_worth_3 : decode cX3_worth 3 = .ok (.iconst 0, 1) := by decide +kernel
theorem dX3_worth_4 : decode cX3_worth 4 = .ok (.iload_n 2, 1) := by decide +kernel
theorem dX3_worth_5 : decode cX3_worth 5 = .ok (.invokestatic 103, 3) := by decide +kernel
theorem dX3_worth_8 : decode cX3_worth 8 = .ok (.istore 5, 2) := by decide +kernel
theorem dX3_worth_10 : decode cX3_worth 10 = .ok (.iload 5, 2) := by decide +kernel
theorem dX3_worth_12 : decode cX3_worth 12 = .ok (.iload_n 3, 1) := by decide +kernel
theorem dX3_worth_13 : decode cX3_worth 13 = .ok (.if_icmp .ge 153, 3) := by decide +kernel
theorem dX3_worth_16 : decode cX3_worth 16 = .ok (.iload 5, 2) := by decide +kernel
theorem dX3_worth_18 : decode cX3_worth 18 = .ok (.aload_n 1, 1) := by decide +kernel
theorem dX3_worth_19 : decode cX3_worth 19 = .ok (.arraylength, 1) := by decide +kernel
theorem dX3_worth_20 : decode cX3_worth 20 = .ok (.if_icmp .ge 146, 3) := by decide +kernel
theorem dX3_worth_23 : decode cX3_worth 23 = .ok (.aload_n 1, 1) := by decide +kernel
theorem dX3_worth_24 : decode cX3_worth 24 = .ok (.iload 5, 2) := by decide +kernel
theorem dX3_worth_26 : decode cX3_worth 26 = .ok (.iaload, 1) := by decide +kernel
theorem dX3_worth_27 : decode cX3_worth 27 = .ok (.ineg, 1) := by decide +kernel
theorem dX3_worth_28 : decode cX3_worth 28 = .ok (.istore 6, 2) := by decide +kernel
theorem dX3_worth_30 : decode cX3_worth 30 = .ok (.iload 6, 2) := by decide +kernel
theorem dX3_worth_32 : decode cX3_worth 32 = .ok (.sipush 269, 3) := by decide +kernel
theorem dX3_worth_35 : decode cX3_worth 35 = .ok (.if_icmp .ne 32, 3) := by decide +kernel
theorem dX3_worth_38 : decode cX3_worth 38 = .ok (.iload 4, 2) := by decide +kernel
theorem dX3_worth_40 : decode cX3_worth 40 = .ok (.iconst 1, 1) := by decide +kernel
theorem dX3_worth_41 : decode cX3_worth 41 = .ok (.if_icmp .lt 119, 3) := by decide +kernel
theorem dX3_worth_44 : decode cX3_worth 44 = .ok (.aload_n 0, 1) := by decide +kernel
theorem dX3_worth_45 : decode cX3_worth 45 = .ok (.getfield 15, 3) := by decide +kernel
theorem dX3_worth_48 : decode cX3_worth 48 = .ok (.iload 4, 2) := by decide +kernel
theorem dX3_worth_50 : decode cX3_worth 50 = .ok (.iconst 1, 1) := by decide +kernel
theorem dX3_worth_51 : decode cX3_worth 51 = .ok (.isub, 1) := by decide +kernel
theorem dX3_worth_52 : decode cX3_worth 52 = .ok (.lconst 1, 1) := by decide +kernel
theorem dX3_worth_53 : decode cX3_worth 53 = .ok (.aload_n 0, 1) := by decide +kernel
theorem dX3_worth_54 : decode cX3_worth 54 = .ok (.getfield 15, 3) := by decide +kernel
theorem dX3_worth_57 : decode cX3_worth 57 = .ok (.iload 4, 2) := by decide +kernel
theorem dX3_worth_59 : decode cX3_worth 59 = .ok (.iconst 1, 1) := by decide +kernel
theorem dX3_worth_60 : decode cX3_worth 60 = .ok (.isub, 1) := by decide +kernel
theorem dX3_worth_61 : decode cX3_worth 61 = .ok (.laload, 1) := by decide +kernel
theorem dX3_worth_62 : decode cX3_worth 62 = .ok (.lsub, 1) := by decide +kernel
theorem dX3_worth_63 : decode cX3_worth 63 = .ok (.lastore, 1) := by decide +kernel
theorem dX3_worth_64 : decode cX3_worth 64 = .ok (.goto 96, 3) := by decide +kernel
theorem dX3_worth_67 : decode cX3_worth 67 = .ok (.iload 6, 2) := by decide +kernel
theorem dX3_worth_69 : decode cX3_worth 69 = .ok (.ifCond .le 11, 3) := by decide +kernel
theorem dX3_worth_72 : decode cX3_worth 72 = .ok (.iload 6, 2) := by decide +kernel
theorem dX3_worth_74 : decode cX3_worth 74 = .ok (.sipush 270, 3) := by decide +kernel
theorem dX3_worth_77 : decode cX3_worth 77 = .ok (.if_icmp .lt 44, 3) := by decide +kernel
theorem dX3_worth_80 : decode cX3_worth 80 = .ok (.iload 4, 2) := by decide +kernel
theorem dX3_worth_82 : decode cX3_worth 82 = .ok (.aload_n 0, 1) := by decide +kernel
theorem dX3_worth_83 : decode cX3_worth 83 = .ok (.getfield 15, 3) := by decide +kernel
theorem dX3_worth_86 : decode cX3_worth 86 = .ok (.arraylength, 1) := by decide +kernel
theorem dX3_worth_87 : decode cX3_worth 87 = .ok (.if_icmp .ge 73, 3) := by decide +kernel
theorem dX3_worth_90 : decode cX3_worth 90 = .ok (.aload_n 0, 1) := by decide +kernel
theorem dX3_worth_91 : decode cX3_worth 91 = .ok (.getfield 15, 3) := by decide +kernel
theorem dX3_worth_94 : decode cX3_worth 94 = .ok (.iload 4, 2) := by decide +kernel
theorem dX3_worth_96 : decode cX3_worth 96 = .ok (.iload 6, 2) := by decide +kernel
theorem dX3_worth_98 : decode cX3_worth 98 = .ok (.ifCond .gt 10, 3) := by decide +kernel
theorem dX3_worth_101 : decode cX3_worth 101 = .ok (.iload 6, 2) := by decide +kernel
theorem dX3_worth_103 : decode cX3_worth 103 = .ok (.ineg, 1) := by decide +kernel
theorem dX3_worth_104 : decode cX3_worth 104 = .ok (.i2l, 1) := by decide +kernel
theorem dX3_worth_105 : decode cX3_worth 105 = .ok (.goto 9, 3) := by decide +kernel
theorem dX3_worth_108 : decode cX3_worth 108 = .ok (.aload_n 0, 1) := by decide +kernel
theorem dX3_worth_109 : decode cX3_worth 109 = .ok (.iload 6, 2) := by decide +kernel
theorem dX3_worth_111 : decode cX3_worth 111 = .ok (.invokevirtual 105, 3) := by decide +kernel
theorem dX3_worth_114 : decode cX3_worth 114 = .ok (.lastore, 1) := by decide +kernel
theorem dX3_worth_115 : decode cX3_worth 115 = .ok (.iinc 4 1, 3) := by decide +kernel
theorem dX3_worth_118 : decode cX3_worth 118 = .ok (.goto 42, 3) := by decide +kernel
theorem dX3_worth_121 : decode cX3_worth 121 = .ok (.iload 4, 2) := by decide +kernel
theorem dX3_worth_123 : decode cX3_worth 123 = .ok (.iconst 2, 1) := by decide +kernel
theorem dX3_worth_124 : decode cX3_worth 124 = .ok (.if_icmp .lt 36, 3) := by decide +kernel
theorem dX3_worth_127 : decode cX3_worth 127 = .ok (.iinc 4 (-1), 3) := by decide +kernel
theorem dX3_worth_130 : decode cX3_worth 130 = .ok (.aload_n 0, 1) := by decide +kernel
theorem dX3_worth_131 : decode cX3_worth 131 = .ok (.getfield 15, 3) := by decide +kernel
theorem dX3_worth_134 : decode cX3_worth 134 = .ok (.iload 4, 2) := by decide +kernel
theorem dX3_worth_136 : decode cX3_worth 136 = .ok (.iconst 1, 1) := by decide +kernel
theorem dX3_worth_137 : decode cX3_worth 137 = .ok (.isub, 1) := by decide +kernel
theorem dX3_worth_138 : decode cX3_worth 138 = .ok (.iload 6, 2) := by decide +kernel
theorem dX3_worth_140 : decode cX3_worth 140 = .ok (.aload_n 0, 1) := by decide +kernel
theorem dX3_worth_141 : decode cX3_worth 141 = .ok (.getfield 15, 3) := by decide +kernel
theorem dX3_worth_144 : decode cX3_worth 144 = .ok (.iload 4, 2) := by decide +kernel
theorem dX3_worth_146 : decode cX3_worth 146 = .ok (.iconst 1, 1) := by decide +kernel
theorem dX3_worth_147 : decode cX3_worth 147 = .ok (.isub, 1) := by decide +kernel
theorem dX3_worth_148 : decode cX3_worth 148 = .ok (.laload, 1) := by decide +kernel
theorem dX3_worth_149 : decode cX3_worth 149 = .ok (.aload_n 0, 1) := by decide +kernel
theorem dX3_worth_150 : decode cX3_worth 150 = .ok (.getfield 15, 3) := by decide +kernel
theorem dX3_worth_153 : decode cX3_worth 153 = .ok (.iload 4, 2) := by decide +kernel
theorem dX3_worth_155 : decode cX3_worth 155 = .ok (.laload, 1) := by decide +kernel
theorem dX3_worth_156 : decode cX3_worth 156 = .ok (.invokestatic 109, 3) := by decide +kernel
theorem dX3_worth_159 : decode cX3_worth 159 = .ok (.lastore, 1) := by decide +kernel
theorem dX3_worth_160 : decode cX3_worth 160 = .ok (.iinc 5 1, 3) := by decide +kernel
theorem dX3_worth_163 : decode cX3_worth 163 = .ok (.goto (-153), 3) := by decide +kernel
theorem dX3_worth_166 : decode cX3_worth 166 = .ok (.iload 4, 2) := by decide +kernel
theorem dX3_worth_168 : decode cX3_worth 168 = .ok (.iconst 1, 1) := by decide +kernel
theorem dX3_worth_169 : decode cX3_worth 169 = .ok (.if_icmp .lt 15, 3) := by decide +kernel
theorem dX3_worth_172 : decode cX3_worth 172 = .ok (.aload_n 0, 1) := by decide +kernel
theorem dX3_worth_173 : decode cX3_worth 173 = .ok (.getfield 15, 3) := by decide +kernel
theorem dX3_worth_176 : decode cX3_worth 176 = .ok (.iload 4, 2) := by decide +kernel
theorem dX3_worth_178 : decode cX3_worth 178 = .ok (.iconst 1, 1) := by decide +kernel
theorem dX3_worth_179 : decode cX3_worth 179 = .ok (.isub, 1) := by decide +kernel
theorem dX3_worth_180 : decode cX3_worth 180 = .ok (.laload, 1) := by decide +kernel
theorem dX3_worth_181 : decode cX3_worth 181 = .ok (.goto 4, 3) := by decide +kernel
theorem dX3_worth_184 : decode cX3_worth 184 = .ok (.lconst 0, 1) := by decide +kernel
theorem dX3_worth_185 : decode cX3_worth 185 = .ok (.lreturn, 1) := by decide +kernel
theorem dX3_wordOf_0 : decode cX3_wordOf 0 = .ok (.iload_n 1, 1) := by decide +kernel
theorem dX3_wordOf_1 : decode cX3_wordOf 1 = .ok (.sipush 270, 3) := by decide +kernel
theorem dX3_wordOf_4 : decode cX3_wordOf 4 = .ok (.isub, 1) := by decide +kernel
theorem dX3_wordOf_5 : decode cX3_wordOf 5 = .ok (.istore_n 2, 1) := by decide +kernel
theorem dX3_wordOf_6 : decode cX3_wordOf 6 = .ok (.iload_n 2, 1) := by decide +kernel
theorem dX3_wordOf_7 : decode cX3_wordOf 7 = .ok (.ifCond .lt 21, 3) := by decide +kernel
theorem dX3_wordOf_10 : decode cX3_wordOf 10 = .ok (.iload_n 2, 1) := by decide +kernel
theorem dX3_wordOf_11 : decode cX3_wordOf 11 = .ok (.aload_n 0, 1) := by decide +kernel
theorem dX3_wordOf_12 : decode cX3_wordOf 12 = .ok (.getfield 9, 3) := by decide +kernel
theorem dX3_wordOf_15 : decode cX3_wordOf 15 = .ok (.arraylength, 1) := by decide +kernel
theorem dX3_wordOf_16 : decode cX3_wordOf 16 = .ok (.if_icmp .ge 12, 3) := by decide +kernel
theorem dX3_wordOf_19 : decode cX3_wordOf 19 = .ok (.aload_n 0, 1) := by decide +kernel
theorem dX3_wordOf_20 : decode cX3_wordOf 20 = .ok (.getfield 9, 3) := by decide +kernel
theorem dX3_wordOf_23 : decode cX3_wordOf 23 = .ok (.iload_n 2, 1) := by decide +kernel
theorem dX3_wordOf_24 : decode cX3_wordOf 24 = .ok (.laload, 1) := by decide +kernel
theorem dX3_wordOf_25 : decode cX3_wordOf 25 = .ok (.goto 4, 3) := by decide +kernel
theorem dX3_wordOf_28 : decode cX3_wordOf 28 = .ok (.lconst 0, 1) := by decide +kernel
theorem dX3_wordOf_29 : decode cX3_wordOf 29 = .ok (.lreturn, 1) := by decide +kernel
theorem dX3_joined_0 : decode cX3_joined 0 = .ok (.iload_n 0, 1) := by decide +kernel
theorem dX3_joined_1 : decode cX3_joined 1 = .ok (.lookupswitch 181 #[(3, 129), (4, 153), (42, 99), (43, 91), (45, 95), (47, 103), (60, 117), (61, 141), (62, 165), (268, 177)], 91) := by decide +kernel
theorem dX3_joined_92 : decode cX3_joined 92 = .ok (.lload_n 1, 1) := by decide +kernel
theorem dX3_joined_93 : decode cX3_joined 93 = .ok (.lload_n 3, 1) := by decide +kernel
theorem dX3_joined_94 : decode cX3_joined 94 = .ok (.ladd, 1) := by decide +kernel
theorem dX3_joined_95 : decode cX3_joined 95 = .ok (.lreturn, 1) := by decide +kernel
theorem dX3_joined_96 : decode cX3_joined 96 = .ok (.lload_n 1, 1) := by decide +kernel
theorem dX3_joined_97 : decode cX3_joined 97 = .ok (.lload_n 3, 1) := by decide +kernel
theorem dX3_joined_98 : decode cX3_joined 98 = .ok (.lsub, 1) := by decide +kernel
theorem dX3_joined_99 : decode cX3_joined 99 = .ok (.lreturn, 1) := by decide +kernel
theorem dX3_joined_100 : decode cX3_joined 100 = .ok (.lload_n 1, 1) := by decide +kernel
theorem dX3_joined_101 : decode cX3_joined 101 = .ok (.lload_n 3, 1) := by decide +kernel
theorem dX3_joined_102 : decode cX3_joined 102 = .ok (.lmul, 1) := by decide +kernel
theorem dX3_joined_103 : decode cX3_joined 103 = .ok (.lreturn, 1) := by decide +kernel
theorem dX3_joined_104 : decode cX3_joined 104 = .ok (.lload_n 3, 1) := by decide +kernel
theorem dX3_joined_105 : decode cX3_joined 105 = .ok (.lconst 0, 1) := by decide +kernel
theorem dX3_joined_106 : decode cX3_joined 106 = .ok (.lcmp, 1) := by decide +kernel
theorem dX3_joined_107 : decode cX3_joined 107 = .ok (.ifCond .ne 7, 3) := by decide +kernel
theorem dX3_joined_110 : decode cX3_joined 110 = .ok (.lconst 0, 1) := by decide +kernel
theorem dX3_joined_111 : decode cX3_joined 111 = .ok (.goto 6, 3) := by decide +kernel
theorem dX3_joined_114 : decode cX3_joined 114 = .ok (.lload_n 1, 1) := by decide +kernel
theorem dX3_joined_115 : decode cX3_joined 115 = .ok (.lload_n 3, 1) := by decide +kernel
theorem dX3_joined_116 : decode cX3_joined 116 = .ok (.ldiv, 1) := by decide +kernel
theorem dX3_joined_117 : decode cX3_joined 117 = .ok (.lreturn, 1) := by decide +kernel
theorem dX3_joined_118 : decode cX3_joined 118 = .ok (.lload_n 1, 1) := by decide +kernel
theorem dX3_joined_119 : decode cX3_joined 119 = .ok (.lload_n 3, 1) := by decide +kernel
theorem dX3_joined_120 : decode cX3_joined 120 = .ok (.lcmp, 1) := by decide +kernel
theorem dX3_joined_121 : decode cX3_joined 121 = .ok (.ifCond .ge 7, 3) := by decide +kernel
theorem dX3_joined_124 : decode cX3_joined 124 = .ok (.lconst 1, 1) := by decide +kernel
theorem dX3_joined_125 : decode cX3_joined 125 = .ok (.goto 4, 3) := by decide +kernel
theorem dX3_joined_128 : decode cX3_joined 128 = .ok (.lconst 0, 1) := by decide +kernel
theorem dX3_joined_129 : decode cX3_joined 129 = .ok (.lreturn, 1) := by decide +kernel
theorem dX3_joined_130 : decode cX3_joined 130 = .ok (.lload_n 1, 1) := by decide +kernel
theorem dX3_joined_131 : decode cX3_joined 131 = .ok (.lload_n 3, 1) := by decide +kernel
theorem dX3_joined_132 : decode cX3_joined 132 = .ok (.lcmp, 1) := by decide +kernel
theorem dX3_joined_133 : decode cX3_joined 133 = .ok (.ifCond .gt 7, 3) := by decide +kernel
theorem dX3_joined_136 : decode cX3_joined 136 = .ok (.lconst 1, 1) := by decide +kernel
theorem dX3_joined_137 : decode cX3_joined 137 = .ok (.goto 4, 3) := by decide +kernel
theorem dX3_joined_140 : decode cX3_joined 140 = .ok (.lconst 0, 1) := by decide +kernel
theorem dX3_joined_141 : decode cX3_joined 141 = .ok (.lreturn, 1) := by decide +kernel
theorem dX3_joined_142 : decode cX3_joined 142 = .ok (.lload_n 1, 1) := by decide +kernel
theorem dX3_joined_143 : decode cX3_joined 143 = .ok (.lload_n 3, 1) := by decide +kernel
theorem dX3_joined_144 : decode cX3_joined 144 = .ok (.lcmp, 1) := by decide +kernel
theorem dX3_joined_145 : decode cX3_joined 145 = .ok (.ifCond .ne 7, 3) := by decide +kernel
theorem dX3_joined_148 : decode cX3_joined 148 = .ok (.lconst 1, 1) := by decide +kernel
theorem dX3_joined_149 : decode cX3_joined 149 = .ok (.goto 4, 3) := by decide +kernel
theorem dX3_joined_152 : decode cX3_joined 152 = .ok (.lconst 0, 1) := by decide +kernel
theorem dX3_joined_153 : decode cX3_joined 153 = .ok (.lreturn, 1) := by decide +kernel
theorem dX3_joined_154 : decode cX3_joined 154 = .ok (.lload_n 1, 1) := by decide +kernel
theorem dX3_joined_155 : decode cX3_joined 155 = .ok (.lload_n 3, 1) := by decide +kernel
theorem dX3_joined_156 : decode cX3_joined 156 = .ok (.lcmp, 1) := by decide +kernel
theorem dX3_joined_157 : decode cX3_joined 157 = .ok (.ifCond .lt 7, 3) := by decide +kernel
theorem dX3_joined_160 : decode cX3_joined 160 = .ok (.lconst 1, 1) := by decide +kernel
theorem dX3_joined_161 : decode cX3_joined 161 = .ok (.goto 4, 3) := by decide +kernel
theorem dX3_joined_164 : decode cX3_joined 164 = .ok (.lconst 0, 1) := by decide +kernel
theorem dX3_joined_165 : decode cX3_joined 165 = .ok (.lreturn, 1) := by decide +kernel
theorem dX3_joined_166 : decode cX3_joined 166 = .ok (.lload_n 1, 1) := by decide +kernel
theorem dX3_joined_167 : decode cX3_joined 167 = .ok (.lload_n 3, 1) := by decide +kernel
theorem dX3_joined_168 : decode cX3_joined 168 = .ok (.lcmp, 1) := by decide +kernel
theorem dX3_joined_169 : decode cX3_joined 169 = .ok (.ifCond .le 7, 3) := by decide +kernel
theorem dX3_joined_172 : decode cX3_joined 172 = .ok (.lconst 1, 1) := by decide +kernel
theorem dX3_joined_173 : decode cX3_joined 173 = .ok (.goto 4, 3) := by decide +kernel
theorem dX3_joined_176 : decode cX3_joined 176 = .ok (.lconst 0, 1) := by decide +kernel
theorem dX3_joined_177 : decode cX3_joined 177 = .ok (.lreturn, 1) := by decide +kernel
theorem dX3_joined_178 : decode cX3_joined 178 = .ok (.lload_n 1, 1) := by decide +kernel
theorem dX3_joined_179 : decode cX3_joined 179 = .ok (.lload_n 3, 1) := by decide +kernel
theorem dX3_joined_180 : decode cX3_joined 180 = .ok (.land, 1) := by decide +kernel
theorem dX3_joined_181 : decode cX3_joined 181 = .ok (.lreturn, 1) := by decide +kernel
theorem dX3_joined_182 : decode cX3_joined 182 = .ok (.lload_n 1, 1) := by decide +kernel
theorem dX3_joined_183 : decode cX3_joined 183 = .ok (.lload_n 3, 1) := by decide +kernel
theorem dX3_joined_184 : decode cX3_joined 184 = .ok (.lor, 1) := by decide +kernel
theorem dX3_joined_185 : decode cX3_joined 185 = .ok (.lreturn, 1) := by decide +kernel
theorem dX4_init_0 : decode cX4_init 0 = .ok (.aload_n 0, 1) := by decide +kernel
theorem dX4_init_1 : decode cX4_init 1 = .ok (.invokespecial 1, 3) := by decide +kernel
theorem dX4_init_4 : decode cX4_init 4 = .ok (.aload_n 0, 1) := by decide +kernel
theorem dX4_init_5 : decode cX4_init 5 = .ok (.iconst 2, 1) := by decide +kernel
theorem dX4_init_6 : decode cX4_init 6 = .ok (.newarray .int, 2) := by decide +kernel
theorem dX4_init_8 : decode cX4_init 8 = .ok (.putfield 7, 3) := by decide +kernel
theorem dX4_init_11 : decode cX4_init 11 = .ok (.aload_n 0, 1) := by decide +kernel
theorem dX4_init_12 : decode cX4_init 12 = .ok (.iconst 2, 1) := by decide +kernel
theorem dX4_init_13 : decode cX4_init 13 = .ok (.newarray .int, 2) := by decide +kernel
theorem dX4_init_15 : decode cX4_init 15 = .ok (.putfield 13, 3) := by decide +kernel
theorem dX4_init_18 : decode cX4_init 18 = .ok (.aload_n 0, 1) := by decide +kernel
theorem dX4_init_19 : decode cX4_init 19 = .ok (.iconst 2, 1) := by decide +kernel
theorem dX4_init_20 : decode cX4_init 20 = .ok (.newarray .int, 2) := by decide +kernel
theorem dX4_init_22 : decode cX4_init 22 = .ok (.putfield 16, 3) := by decide +kernel
theorem dX4_init_25 : decode cX4_init 25 = .ok (.aload_n 0, 1) := by decide +kernel
theorem dX4_init_26 : decode cX4_init 26 = .ok (.bipush 8, 2) := by decide +kernel
theorem dX4_init_28 : decode cX4_init 28 = .ok (.newarray .int, 2) := by decide +kernel
theorem dX4_init_30 : decode cX4_init 30 = .ok (.putfield 19, 3) := by decide +kernel
theorem dX4_init_33 : decode cX4_init 33 = .ok (.aload_n 0, 1) := by decide +kernel
theorem dX4_init_34 : decode cX4_init 34 = .ok (.bipush 8, 2) := by decide +kernel
theorem dX4_init_36 : decode cX4_init 36 = .ok (.newarray .int, 2) := by decide +kernel
theorem dX4_init_38 : decode cX4_init 38 = .ok (.putfield 22, 3) := by decide +kernel
theorem dX4_init_41 : decode cX4_init 41 = .ok (.return_, 1) := by decide +kernel
theorem dX5_init_0 : decode cX5_init 0 = .ok (.aload_n 0, 1) := by decide +kernel
theorem dX5_init_1 : decode cX5_init 1 = .ok (.invokespecial 1, 3) := by decide +kernel
theorem dX5_init_4 : decode cX5_init 4 = .ok (.aload_n 0, 1) := by decide +kernel
theorem dX5_init_5 : decode cX5_init 5 = .ok (.aload_n 1, 1) := by decide +kernel
theorem dX5_init_6 : decode cX5_init 6 = .ok (.putfield 7, 3) := by decide +kernel
theorem dX5_init_9 : decode cX5_init 9 = .ok (.return_, 1) := by decide +kernel
set_option maxRecDepth 20000 in
theorem ggX5_read_X4_init : GoodIn wsX5_read wsX4_init := goodIn_r _ [9, 10, 11, 12, 13, 14, 15, 16, 17, 18, 79, 80, 81, 82, 83, 84, 85, 86, 87] rfl (by decide +kernel)
set_option maxRecDepth 20000 in
theorem gX5_read_X4_init : GoodIn wsX5_read (wsX4_init) := ggX5_read_X4_init
set_option maxRecDepth 20000 in
theorem ggX5_read_X5_readClause : GoodIn wsX5_read wsX5_readClause := goodIn_r _ [23, 6, 24, 25, 1, 26, 2, 27, 28, 29, 30, 31, 32, 33, 34, 35, 36, 37, 38, 39, 40, 41, 42, 43, 22, 44, 45, 46, 47, 48, 49, 50, 51, 52, 53, 54, 55, 56, 57, 58, 59, 60, 61, 62, 63, 64, 65, 66, 67, 68, 69, 70, 71, 72, 73, 74, 75, 76, 77, 78, 79, 80, 81, 82, 83, 84, 85, 86, 87, 88, 89, 90, 91, 92, 93] rfl (by decide +kernel)
set_option maxRecDepth 20000 in
theorem gX5_read_X5_readClause : GoodIn wsX5_read (wsV RX5 23 RX5 yX5_readClause wsX5_readClause) := goodIn_app (goodIn_of _ (by decide +kernel)) ggX5_read_X5_readClause
set_option maxRecDepth 20000 in
theorem ggX5_read_X10_kind : GoodIn wsX5_read wsX10_kind := goodIn_r _ [31, 32, 33, 34, 35, 88, 89, 90, 91, 92, 93] rfl (by decide +kernel)
set_option maxRecDepth 20000 in
theorem gX5_read_X10_kind : GoodIn wsX5_read (wsV RX5 27 RX10 yX10_kind wsX10_kind) := goodIn_app (goodIn_of _ (by decide +kernel)) ggX5_read_X10_kind
set_option maxRecDepth 20000 in
theorem ggX5_read_X10_fail : GoodIn wsX5_read wsX10_fail := goodIn_r _ [39, 32, 33, 34, 40, 88, 89, 90, 91, 92, 93] rfl (by decide +kernel)
set_option maxRecDepth 20000 in
theorem gX5_read_X10_fail : GoodIn wsX5_read (wsV RX5 33 RX10 yX10_fail wsX10_fail) := goodIn_app (goodIn_of _ (by decide +kernel)) ggX5_read_X10_fail
set_option maxRecDepth 20000 in
theorem ggX5_read_X10_next : GoodIn wsX5_read wsX10_next := goodIn_r _ [49, 33, 34, 88, 89, 90, 91, 92, 93] rfl (by decide +kernel)
set_option maxRecDepth 20000 in
theorem gX5_read_X10_next : GoodIn wsX5_read (wsV RX5 37 RX10 yX10_next wsX10_next) := goodIn_app (goodIn_of _ (by decide +kernel)) ggX5_read_X10_next
theorem dX5_read_0 : decode cX5_read 0 = .ok (.aload_n 0, 1) := by decide +kernel
theorem dX5_read_1 : decode cX5_read 1 = .ok (.iconst 0, 1) := by decide +kernel
theorem dX5_read_2 : decode cX5_read 2 = .ok (.putfield 13, 3) := by decide +kernel
theorem dX5_read_5 : decode cX5_read 5 = .ok (.aload_n 0, 1) := by decide +kernel
theorem dX5_read_6 : decode cX5_read 6 = .ok (.iconst 0, 1) := by decide +kernel
theorem dX5_read_7 : decode cX5_read 7 = .ok (.putfield 17, 3) := by decide +kernel
theorem dX5_read_10 : decode cX5_read 10 = .ok (.new 20, 3) := by decide +kernel
theorem dX5_read_13 : decode cX5_read 13 = .ok (.dup, 1) := by decide +kernel
theorem dX5_read_14 : decode cX5_read 14 = .ok (.invokespecial 22, 3) := by decide +kernel
theorem dX5_read_17 : decode cX5_read 17 = .ok (.astore_n 1, 1) := by decide +kernel
theorem dX5_read_18 : decode cX5_read 18 = .ok (.iconst 0, 1) := by decide +kernel
theorem dX5_read_19 : decode cX5_read 19 = .ok (.istore_n 2, 1) := by decide +kernel
theorem dX5_read_20 : decode cX5_read 20 = .ok (.iload_n 2, 1) := by decide +kernel
theorem dX5_read_21 : decode cX5_read 21 = .ok (.bipush 24, 2) := by decide +kernel
theorem dX5_read_23 : decode cX5_read 23 = .ok (.if_icmp .gt 56, 3) := by decide +kernel
theorem dX5_read_26 : decode cX5_read 26 = .ok (.aload_n 0, 1) := by decide +kernel
theorem dX5_read_27 : decode cX5_read 27 = .ok (.aload_n 1, 1) := by decide +kernel
theorem dX5_read_28 : decode cX5_read 28 = .ok (.iload_n 2, 1) := by decide +kernel
theorem dX5_read_29 : decode cX5_read 29 = .ok (.invokevirtual 23, 3) := by decide +kernel
theorem dX5_read_32 : decode cX5_read 32 = .ok (.aload_n 0, 1) := by decide +kernel
theorem dX5_read_33 : decode cX5_read 33 = .ok (.getfield 7, 3) := by decide +kernel
theorem dX5_read_36 : decode cX5_read 36 = .ok (.invokevirtual 27, 3) := by decide +kernel
theorem dX5_read_39 : decode cX5_read 39 = .ok (.ifCond .ne 5, 3) := by decide +kernel
theorem dX5_read_42 : decode cX5_read 42 = .ok (.aload_n 1, 1) := by decide +kernel
theorem dX5_read_43 : decode cX5_read 43 = .ok (.areturn, 1) := by decide +kernel
theorem dX5_read_44 : decode cX5_read 44 = .ok (.aload_n 0, 1) := by decide +kernel
theorem dX5_read_45 : decode cX5_read 45 = .ok (.getfield 7, 3) := by decide +kernel
theorem dX5_read_48 : decode cX5_read 48 = .ok (.invokevirtual 27, 3) := by decide +kernel
theorem dX5_read_51 : decode cX5_read 51 = .ok (.bipush 59, 2) := by decide +kernel
theorem dX5_read_53 : decode cX5_read 53 = .ok (.if_icmp .eq 13, 3) := by decide +kernel
theorem dX5_read_56 : decode cX5_read 56 = .ok (.aload_n 0, 1) := by decide +kernel
theorem dX5_read_57 : decode cX5_read 57 = .ok (.getfield 7, 3) := by decide +kernel
theorem dX5_read_60 : decode cX5_read 60 = .ok (.iconst 0, 1) := by decide +kernel
theorem dX5_read_61 : decode cX5_read 61 = .ok (.invokevirtual 33, 3) := by decide +kernel
theorem dX5_read_64 : decode cX5_read 64 = .ok (.aconst_null, 1) := by decide +kernel
theorem dX5_read_65 : decode cX5_read 65 = .ok (.areturn, 1) := by decide +kernel
theorem dX5_read_66 : decode cX5_read 66 = .ok (.aload_n 0, 1) := by decide +kernel
theorem dX5_read_67 : decode cX5_read 67 = .ok (.getfield 7, 3) := by decide +kernel
theorem dX5_read_70 : decode cX5_read 70 = .ok (.invokevirtual 37, 3) := by decide +kernel
theorem dX5_read_73 : decode cX5_read 73 = .ok (.iinc 2 1, 3) := by decide +kernel
theorem dX5_read_76 : decode cX5_read 76 = .ok (.goto (-56), 3) := by decide +kernel
theorem dX5_read_79 : decode cX5_read 79 = .ok (.aconst_null, 1) := by decide +kernel
theorem dX5_read_80 : decode cX5_read 80 = .ok (.areturn, 1) := by decide +kernel
set_option maxRecDepth 20000 in
theorem ggX5_readClause_X10_kind : GoodIn wsX5_readClause wsX10_kind := goodIn_r _ [11, 12, 13, 14, 15, 69, 70, 71, 72, 73, 74] rfl (by decide +kernel)
set_option maxRecDepth 20000 in
theorem gX5_readClause_X10_kind : GoodIn wsX5_readClause (wsV RX5 27 RX10 yX10_kind wsX10_kind) := goodIn_app (goodIn_of _ (by decide +kernel)) ggX5_readClause_X10_kind
set_option maxRecDepth 20000 in
theorem ggX5_readClause_X10_fail : GoodIn wsX5_readClause wsX10_fail := goodIn_r _ [19, 12, 13, 14, 20, 69, 70, 71, 72, 73, 74] rfl (by decide +kernel)
set_option maxRecDepth 20000 in
theorem gX5_readClause_X10_fail : GoodIn wsX5_readClause (wsV RX5 33 RX10 yX10_fail wsX10_fail) := goodIn_app (goodIn_of _ (by decide +kernel)) ggX5_readClause_X10_fail
set_option maxRecDepth 20000 in
theorem ggX5_readClause_X5_isClauseTooMany : GoodIn wsX5_readClause wsX5_isClauseTooMany := goodIn_r _ [25, 4, 6, 26, 57, 58, 59, 60, 61, 62, 63, 64, 65, 66, 67, 68] rfl (by decide +kernel)
set_option maxRecDepth 20000 in
theorem gX5_readClause_X5_isClauseTooMany : GoodIn wsX5_readClause (wsV RX5 40 RX5 yX5_isClauseTooMany wsX5_isClauseTooMany) := goodIn_app (goodIn_of _ (by decide +kernel)) ggX5_readClause_X5_isClauseTooMany
set_option maxRecDepth 20000 in
theorem ggX5_readClause_X10_next : GoodIn wsX5_readClause wsX10_next := goodIn_r _ [30, 13, 14, 69, 70, 71, 72, 73, 74] rfl (by decide +kernel)
set_option maxRecDepth 20000 in
theorem gX5_readClause_X10_next : GoodIn wsX5_readClause (wsV RX5 37 RX10 yX10_next wsX10_next) := goodIn_app (goodIn_of _ (by decide +kernel)) ggX5_readClause_X10_next
set_option maxRecDepth 20000 in
theorem ggX5_readClause_X5_number : GoodIn wsX5_readClause wsX5_number := goodIn_r _ [34, 1, 7, 8, 9, 10, 11, 12, 13, 14, 15, 16, 17, 18, 19, 20, 35, 36, 37, 38, 39, 27, 28, 29, 30, 57, 58, 59, 69, 70, 71, 72, 73, 74] rfl (by decide +kernel)
set_option maxRecDepth 20000 in
theorem gX5_readClause_X5_number : GoodIn wsX5_readClause (wsV RX5 44 RX5 yX5_number wsX5_number) := goodIn_app (goodIn_of _ (by decide +kernel)) ggX5_readClause_X5_number
set_option maxRecDepth 20000 in
theorem ggX5_readClause_X5_readBank : GoodIn wsX5_readClause wsX5_readBank := goodIn_r _ [43, 44, 45, 31, 32, 33, 24, 34, 1, 7, 8, 9, 10, 11, 12, 13, 14, 15, 16, 17, 18, 19, 20, 35, 36, 37, 38, 39, 27, 28, 29, 30, 60, 61, 62, 63, 64, 65, 66, 67, 68, 57, 58, 59, 69, 70, 71, 72, 73, 74] rfl (by decide +kernel)
set_option maxRecDepth 20000 in
theorem gX5_readClause_X5_readBank : GoodIn wsX5_readClause (wsV RX5 55 RX5 yX5_readBank wsX5_readBank) := goodIn_app (goodIn_of _ (by decide +kernel)) ggX5_readClause_X5_readBank
set_option maxRecDepth 20000 in
theorem ggX5_readClause_X5_readEyes : GoodIn wsX5_readClause wsX5_readEyes := goodIn_r _ [49, 50, 31, 32, 33, 24, 34, 1, 7, 8, 9, 10, 11, 12, 13, 14, 15, 16, 17, 18, 19, 20, 35, 36, 37, 38, 39, 27, 28, 29, 30, 60, 61, 62, 63, 64, 65, 66, 67, 68, 57, 58, 59, 69, 70, 71, 72, 73, 74] rfl (by decide +kernel)
set_option maxRecDepth 20000 in
theorem gX5_readClause_X5_readEyes : GoodIn wsX5_readClause (wsV RX5 59 RX5 yX5_readEyes wsX5_readEyes) := goodIn_app (goodIn_of _ (by decide +kernel)) ggX5_readClause_X5_readEyes
set_option maxRecDepth 20000 in
theorem ggX5_readClause_X5_readFlood : GoodIn wsX5_readClause wsX5_readFlood := goodIn_r _ [54, 26, 55, 56, 31, 32, 33, 24, 34, 1, 7, 8, 9, 10, 11, 12, 13, 14, 15, 16, 17, 18, 19, 20, 35, 36, 37, 38, 39, 27, 28, 29, 30, 60, 61, 62, 63, 64, 65, 66, 67, 68, 57, 58, 59, 69, 70, 71, 72, 73, 74] rfl (by decide +kernel)
set_option maxRecDepth 20000 in
theorem gX5_readClause_X5_readFlood : GoodIn wsX5_readClause (wsV RX5 65 RX5 yX5_readFlood wsX5_readFlood) := goodIn_app (goodIn_of _ (by decide +kernel)) ggX5_readClause_X5_readFlood
theorem dX5_readClause_0 : decode cX5_readClause 0 = .ok (.aload_n 0, 1) := by decide +kernel
theorem dX5_readClause_1 : decode cX5_readClause 1 = .ok (.getfield 7, 3) := by decide +kernel
theorem dX5_readClause_4 : decode cX5_readClause 4 = .ok (.invokevirtual 27, 3) := by decide +kernel
theorem dX5_readClause_7 : decode cX5_readClause 7 = .ok (.istore_n 3, 1) := by decide +kernel
theorem dX5_readClause_8 : decode cX5_readClause 8 = .ok (.iload_n 3, 1) := by decide +kernel
theorem dX5_readClause_9 : decode cX5_readClause 9 = .ok (.sipush 256, 3) := by decide +kernel
theorem dX5_readClause_12 : decode cX5_readClause 12 = .ok (.if_icmp .lt 10, 3) := by decide +kernel
theorem dX5_readClause_15 : decode cX5_readClause 15 = .ok (.iload_n 3, 1) := by decide +kernel
theorem dX5_readClause_16 : decode cX5_readClause 16 = .ok (.sipush 261, 3) := by decide +kernel
theorem dX5_readClause_19 : decode cX5_readClause 19 = .ok (.if_icmp .le 12, 3) := by decide +kernel
theorem dX5_readClause_22 : decode cX5_readClause 22 = .ok (.aload_n 0, 1) := by decide +kernel
theorem dX5_readClause_23 : decode cX5_readClause 23 = .ok (.getfield 7, 3) := by decide +kernel
theorem dX5_readClause_26 : decode cX5_readClause 26 = .ok (.iconst 0, 1) := by decide +kernel
theorem dX5_readClause_27 : decode cX5_readClause 27 = .ok (.invokevirtual 33, 3) := by decide +kernel
theorem dX5_readClause_30 : decode cX5_readClause 30 = .ok (.return_, 1) := by decide +kernel
theorem dX5_readClause_31 : decode cX5_readClause 31 = .ok (.iload_n 2, 1) := by decide +kernel
theorem dX5_readClause_32 : decode cX5_readClause 32 = .ok (.bipush 24, 2) := by decide +kernel
theorem dX5_readClause_34 : decode cX5_readClause 34 = .ok (.if_icmp .ge 13, 3) := by decide +kernel
theorem dX5_readClause_37 : decode cX5_readClause 37 = .ok (.aload_n 0, 1) := by decide +kernel
theorem dX5_readClause_38 : decode cX5_readClause 38 = .ok (.aload_n 1, 1) := by decide +kernel
theorem dX5_readClause_39 : decode cX5_readClause 39 = .ok (.iload_n 2, 1) := by decide +kernel
theorem dX5_readClause_40 : decode cX5_readClause 40 = .ok (.iload_n 3, 1) := by decide +kernel
theorem dX5_readClause_41 : decode cX5_readClause 41 = .ok (.invokevirtual 40, 3) := by decide +kernel
theorem dX5_readClause_44 : decode cX5_readClause 44 = .ok (.ifCond .eq 12, 3) := by decide +kernel
theorem dX5_readClause_47 : decode cX5_readClause 47 = .ok (.aload_n 0, 1) := by decide +kernel
theorem dX5_readClause_48 : decode cX5_readClause 48 = .ok (.getfield 7, 3) := by decide +kernel
theorem dX5_readClause_51 : decode cX5_readClause 51 = .ok (.iconst 4, 1) := by decide +kernel
theorem dX5_readClause_52 : decode cX5_readClause 52 = .ok (.invokevirtual 33, 3) := by decide +kernel
theorem dX5_readClause_55 : decode cX5_readClause 55 = .ok (.return_, 1) := by decide +kernel
theorem dX5_readClause_56 : decode cX5_readClause 56 = .ok (.aload_n 0, 1) := by decide +kernel
theorem dX5_readClause_57 : decode cX5_readClause 57 = .ok (.getfield 7, 3) := by decide +kernel
theorem dX5_readClause_60 : decode cX5_readClause 60 = .ok (.invokevirtual 37, 3) := by decide +kernel
theorem dX5_readClause_63 : decode cX5_readClause 63 = .ok (.iload_n 3, 1) := by decide +kernel
theorem dX5_readClause_64 : decode cX5_readClause 64 = .ok (.tableswitch 109 256 260 #[36, 55, 63, 71, 90], 36) := by decide +kernel
theorem dX5_readClause_100 : decode cX5_readClause 100 = .ok (.aload_n 1, 1) := by decide +kernel
theorem dX5_readClause_101 : decode cX5_readClause 101 = .ok (.aload_n 0, 1) := by decide +kernel
theorem dX5_readClause_102 : decode cX5_readClause 102 = .ok (.iconst 2, 1) := by decide +kernel
theorem dX5_readClause_103 : decode cX5_readClause 103 = .ok (.bipush 40, 2) := by decide +kernel
theorem dX5_readClause_105 : decode cX5_readClause 105 = .ok (.invokevirtual 44, 3) := by decide +kernel
theorem dX5_readClause_108 : decode cX5_readClause 108 = .ok (.putfield 48, 3) := by decide +kernel
theorem dX5_readClause_111 : decode cX5_readClause 111 = .ok (.aload_n 1, 1) := by decide +kernel
theorem dX5_readClause_112 : decode cX5_readClause 112 = .ok (.iconst 1, 1) := by decide +kernel
theorem dX5_readClause_113 : decode cX5_readClause 113 = .ok (.putfield 52, 3) := by decide +kernel
theorem dX5_readClause_116 : decode cX5_readClause 116 = .ok (.goto 62, 3) := by decide +kernel
theorem dX5_readClause_119 : decode cX5_readClause 119 = .ok (.aload_n 0, 1) := by decide +kernel
theorem dX5_readClause_120 : decode cX5_readClause 120 = .ok (.aload_n 1, 1) := by decide +kernel
theorem dX5_readClause_121 : decode cX5_readClause 121 = .ok (.invokevirtual 55, 3) := by decide +kernel
theorem dX5_readClause_124 : decode cX5_readClause 124 = .ok (.goto 54, 3) := by decide +kernel
theorem dX5_readClause_127 : decode cX5_readClause 127 = .ok (.aload_n 0, 1) := by decide +kernel
theorem dX5_readClause_128 : decode cX5_readClause 128 = .ok (.aload_n 1, 1) := by decide +kernel
theorem dX5_readClause_129 : decode cX5_readClause 129 = .ok (.invokevirtual 59, 3) := by decide +kernel
theorem dX5_readClause_132 : decode cX5_readClause 132 = .ok (.goto 46, 3) := by decide +kernel
theorem dX5_readClause_135 : decode cX5_readClause 135 = .ok (.aload_n 1, 1) := by decide +kernel
theorem dX5_readClause_136 : decode cX5_readClause 136 = .ok (.aload_n 0, 1) := by decide +kernel
theorem dX5_readClause_137 : decode cX5_readClause 137 = .ok (.iconst 1, 1) := by decide +kernel
theorem dX5_readClause_138 : decode cX5_readClause 138 = .ok (.bipush 20, 2) := by decide +kernel
theorem dX5_readClause_140 : decode cX5_readClause 140 = .ok (.invokevirtual 44, 3) := by decide +kernel
theorem dX5_readClause_143 : decode cX5_readClause 143 = .ok (.putfield 52, 3) := by decide +kernel
theorem dX5_readClause_146 : decode cX5_readClause 146 = .ok (.aload_n 0, 1) := by decide +kernel
theorem dX5_readClause_147 : decode cX5_readClause 147 = .ok (.iconst 1, 1) := by decide +kernel
theorem dX5_readClause_148 : decode cX5_readClause 148 = .ok (.putfield 13, 3) := by decide +kernel
theorem dX5_readClause_151 : decode cX5_readClause 151 = .ok (.goto 27, 3) := by decide +kernel
theorem dX5_readClause_154 : decode cX5_readClause 154 = .ok (.aload_n 1, 1) := by decide +kernel
theorem dX5_readClause_155 : decode cX5_readClause 155 = .ok (.aload_n 0, 1) := by decide +kernel
theorem dX5_readClause_156 : decode cX5_readClause 156 = .ok (.iconst 0, 1) := by decide +kernel
theorem dX5_readClause_157 : decode cX5_readClause 157 = .ok (.bipush 99, 2) := by decide +kernel
theorem dX5_readClause_159 : decode cX5_readClause 159 = .ok (.invokevirtual 44, 3) := by decide +kernel
theorem dX5_readClause_162 : decode cX5_readClause 162 = .ok (.putfield 62, 3) := by decide +kernel
theorem dX5_readClause_165 : decode cX5_readClause 165 = .ok (.aload_n 0, 1) := by decide +kernel
theorem dX5_readClause_166 : decode cX5_readClause 166 = .ok (.iconst 1, 1) := by decide +kernel
theorem dX5_readClause_167 : decode cX5_readClause 167 = .ok (.putfield 17, 3) := by decide +kernel
theorem dX5_readClause_170 : decode cX5_readClause 170 = .ok (.goto 8, 3) := by decide +kernel
theorem dX5_readClause_173 : decode cX5_readClause 173 = .ok (.aload_n 0, 1) := by decide +kernel
theorem dX5_readClause_174 : decode cX5_readClause 174 = .ok (.aload_n 1, 1) := by decide +kernel
theorem dX5_readClause_175 : decode cX5_readClause 175 = .ok (.invokevirtual 65, 3) := by decide +kernel
theorem dX5_readClause_178 : decode cX5_readClause 178 = .ok (.return_, 1) := by decide +kernel
theorem dX5_isClauseTooMany_0 : decode cX5_isClauseTooMany 0 = .ok (.iload_n 2, 1) := by decide +kernel
theorem dX5_isClauseTooMany_1 : decode cX5_isClauseTooMany 1 = .ok (.ifCond .ne 7, 3) := by decide +kernel
theorem dX5_isClauseTooMany_4 : decode cX5_isClauseTooMany 4 = .ok (.iconst 1, 1) := by decide +kernel
theorem dX5_isClauseTooMany_5 : decode cX5_isClauseTooMany 5 = .ok (.goto 4, 3) := by decide +kernel
theorem dX5_isClauseTooMany_8 : decode cX5_isClauseTooMany 8 = .ok (.iconst 0, 1) := by decide +kernel
theorem dX5_isClauseTooMany_9 : decode cX5_isClauseTooMany 9 = .ok (.iload_n 3, 1) := by decide +kernel
theorem dX5_isClauseTooMany_10 : decode cX5_isClauseTooMany 10 = .ok (.sipush 256, 3) := by decide +kernel
theorem dX5_isClauseTooMany_13 : decode cX5_isClauseTooMany 13 = .ok (.if_icmp .ne 7, 3) := by decide +kernel
theorem dX5_isClauseTooMany_16 : decode cX5_isClauseTooMany 16 = .ok (.iconst 1, 1) := by decide +kernel
theorem dX5_isClauseTooMany_17 : decode cX5_isClauseTooMany 17 = .ok (.goto 4, 3) := by decide +kernel
theorem dX5_isClauseTooMany_20 : decode cX5_isClauseTooMany 20 = .ok (.iconst 0, 1) := by decide +kernel
theorem dX5_isClauseTooMany_21 : decode cX5_isClauseTooMany 21 = .ok (.if_icmp .eq 5, 3) := by decide +kernel
theorem dX5_isClauseTooMany_24 : decode cX5_isClauseTooMany 24 = .ok (.iconst 1, 1) := by decide +kernel
theorem dX5_isClauseTooMany_25 : decode cX5_isClauseTooMany 25 = .ok (.ireturn, 1) := by decide +kernel
theorem dX5_isClauseTooMany_26 : decode cX5_isClauseTooMany 26 = .ok (.iload_n 3, 1) := by decide +kernel
theorem dX5_isClauseTooMany_27 : decode cX5_isClauseTooMany 27 = .ok (.tableswitch 50 259 261 #[25, 30, 35], 25) := by decide +kernel
theorem dX5_isClauseTooMany_52 : decode cX5_isClauseTooMany 52 = .ok (.aload_n 0, 1) := by decide +kernel
theorem dX5_isClauseTooMany_53 : decode cX5_isClauseTooMany 53 = .ok (.getfield 13, 3) := by decide +kernel
theorem dX5_isClauseTooMany_56 : decode cX5_isClauseTooMany 56 = .ok (.ireturn, 1) := by decide +kernel
theorem dX5_isClauseTooMany_57 : decode cX5_isClauseTooMany 57 = .ok (.aload_n 0, 1) := by decide +kernel
theorem dX5_isClauseTooMany_58 : decode cX5_isClauseTooMany 58 = .ok (.getfield 17, 3) := by decide +kernel
theorem dX5_isClauseTooMany_61 : decode cX5_isClauseTooMany 61 = .ok (.ireturn, 1) := by decide +kernel
theorem dX5_isClauseTooMany_62 : decode cX5_isClauseTooMany 62 = .ok (.aload_n 1, 1) := by decide +kernel
theorem dX5_isClauseTooMany_63 : decode cX5_isClauseTooMany 63 = .ok (.getfield 68, 3) := by decide +kernel
theorem dX5_isClauseTooMany_66 : decode cX5_isClauseTooMany 66 = .ok (.bipush 8, 2) := by decide +kernel
theorem dX5_isClauseTooMany_68 : decode cX5_isClauseTooMany 68 = .ok (.if_icmp .lt 7, 3) := by decide +kernel
theorem dX5_isClauseTooMany_71 : decode cX5_isClauseTooMany 71 = .ok (.iconst 1, 1) := by decide +kernel
theorem dX5_isClauseTooMany_72 : decode cX5_isClauseTooMany 72 = .ok (.goto 4, 3) := by decide +kernel
theorem dX5_isClauseTooMany_75 : decode cX5_isClauseTooMany 75 = .ok (.iconst 0, 1) := by decide +kernel
theorem dX5_isClauseTooMany_76 : decode cX5_isClauseTooMany 76 = .ok (.ireturn, 1) := by decide +kernel
theorem dX5_isClauseTooMany_77 : decode cX5_isClauseTooMany 77 = .ok (.iconst 0, 1) := by decide +kernel
theorem dX5_isClauseTooMany_78 : decode cX5_isClauseTooMany 78 = .ok (.ireturn, 1) := by decide +kernel
set_option maxRecDepth 20000 in
theorem ggX5_readBank_X5_number : GoodIn wsX5_readBank wsX5_number := goodIn_r _ [7, 8, 9, 10, 11, 12, 13, 14, 15, 16, 17, 18, 19, 20, 21, 22, 23, 24, 25, 26, 27, 28, 29, 30, 31, 41, 42, 43, 44, 45, 46, 47, 48, 49] rfl (by decide +kernel)
set_option maxRecDepth 20000 in
theorem gX5_readBank_X5_number : GoodIn wsX5_readBank (wsV RX5 44 RX5 yX5_number wsX5_number) := goodIn_app (goodIn_of _ (by decide +kernel)) ggX5_readBank_X5_number
theorem dX5_readBank_0 : decode cX5_readBank 0 = .ok (.aload_n 0, 1) := by decide +kernel
theorem dX5_readBank_1 : decode cX5_readBank 1 = .ok (.iconst 0, 1) := by decide +kernel
theorem dX5_readBank_2 : decode cX5_readBank 2 = .ok (.iconst 1, 1) := by decide +kernel
theorem dX5_readBank_3 : decode cX5_readBank 3 = .ok (.invokevirtual 44, 3) := by decide +kernel
theorem dX5_readBank_6 : decode cX5_readBank 6 = .ok (.istore_n 2, 1) := by decide +kernel
theorem dX5_readBank_7 : decode cX5_readBank 7 = .ok (.aload_n 1, 1) := by decide +kernel
theorem dX5_readBank_8 : decode cX5_readBank 8 = .ok (.getfield 71, 3) := by decide +kernel
theorem dX5_readBank_11 : decode cX5_readBank 11 = .ok (.iload_n 2, 1) := by decide +kernel
theorem dX5_readBank_12 : decode cX5_readBank 12 = .ok (.aload_n 0, 1) := by decide +kernel
theorem dX5_readBank_13 : decode cX5_readBank 13 = .ok (.iconst 0, 1) := by decide +kernel
theorem dX5_readBank_14 : decode cX5_readBank 14 = .ok (.bipush 99, 2) := by decide +kernel
theorem dX5_readBank_16 : decode cX5_readBank 16 = .ok (.invokevirtual 44, 3) := by decide +kernel
theorem dX5_readBank_19 : decode cX5_readBank 19 = .ok (.iastore, 1) := by decide +kernel
theorem dX5_readBank_20 : decode cX5_readBank 20 = .ok (.aload_n 1, 1) := by decide +kernel
theorem dX5_readBank_21 : decode cX5_readBank 21 = .ok (.getfield 75, 3) := by decide +kernel
theorem dX5_readBank_24 : decode cX5_readBank 24 = .ok (.iload_n 2, 1) := by decide +kernel
theorem dX5_readBank_25 : decode cX5_readBank 25 = .ok (.aload_n 0, 1) := by decide +kernel
theorem dX5_readBank_26 : decode cX5_readBank 26 = .ok (.iconst 0, 1) := by decide +kernel
theorem dX5_readBank_27 : decode cX5_readBank 27 = .ok (.bipush 99, 2) := by decide +kernel
theorem dX5_readBank_29 : decode cX5_readBank 29 = .ok (.invokevirtual 44, 3) := by decide +kernel
theorem dX5_readBank_32 : decode cX5_readBank 32 = .ok (.iastore, 1) := by decide +kernel
theorem dX5_readBank_33 : decode cX5_readBank 33 = .ok (.return_, 1) := by decide +kernel
set_option maxRecDepth 20000 in
theorem ggX5_readEyes_X5_number : GoodIn wsX5_readEyes wsX5_number := goodIn_r _ [6, 7, 8, 9, 10, 11, 12, 13, 14, 15, 16, 17, 18, 19, 20, 21, 22, 23, 24, 25, 26, 27, 28, 29, 30, 40, 41, 42, 43, 44, 45, 46, 47, 48] rfl (by decide +kernel)
set_option maxRecDepth 20000 in
theorem gX5_readEyes_X5_number : GoodIn wsX5_readEyes (wsV RX5 44 RX5 yX5_number wsX5_number) := goodIn_app (goodIn_of _ (by decide +kernel)) ggX5_readEyes_X5_number
theorem dX5_readEyes_0 : decode cX5_readEyes 0 = .ok (.aload_n 0, 1) := by decide +kernel
theorem dX5_readEyes_1 : decode cX5_readEyes 1 = .ok (.iconst 0, 1) := by decide +kernel
theorem dX5_readEyes_2 : decode cX5_readEyes 2 = .ok (.iconst 1, 1) := by decide +kernel
theorem dX5_readEyes_3 : decode cX5_readEyes 3 = .ok (.invokevirtual 44, 3) := by decide +kernel
theorem dX5_readEyes_6 : decode cX5_readEyes 6 = .ok (.istore_n 2, 1) := by decide +kernel
theorem dX5_readEyes_7 : decode cX5_readEyes 7 = .ok (.aload_n 1, 1) := by decide +kernel
theorem dX5_readEyes_8 : decode cX5_readEyes 8 = .ok (.getfield 78, 3) := by decide +kernel
theorem dX5_readEyes_11 : decode cX5_readEyes 11 = .ok (.iload_n 2, 1) := by decide +kernel
theorem dX5_readEyes_12 : decode cX5_readEyes 12 = .ok (.aload_n 0, 1) := by decide +kernel
theorem dX5_readEyes_13 : decode cX5_readEyes 13 = .ok (.iconst 0, 1) := by decide +kernel
theorem dX5_readEyes_14 : decode cX5_readEyes 14 = .ok (.bipush 9, 2) := by decide +kernel
theorem dX5_readEyes_16 : decode cX5_readEyes 16 = .ok (.invokevirtual 44, 3) := by decide +kernel
theorem dX5_readEyes_19 : decode cX5_readEyes 19 = .ok (.iastore, 1) := by decide +kernel
theorem dX5_readEyes_20 : decode cX5_readEyes 20 = .ok (.return_, 1) := by decide +kernel
set_option maxRecDepth 20000 in
theorem ggX5_readFlood_X5_number : GoodIn wsX5_readFlood wsX5_number := goodIn_r _ [8, 9, 10, 11, 12, 13, 14, 15, 16, 17, 18, 19, 20, 21, 22, 23, 24, 25, 26, 27, 28, 29, 30, 31, 32, 42, 43, 44, 45, 46, 47, 48, 49, 50] rfl (by decide +kernel)
set_option maxRecDepth 20000 in
theorem gX5_readFlood_X5_number : GoodIn wsX5_readFlood (wsV RX5 44 RX5 yX5_number wsX5_number) := goodIn_app (goodIn_of _ (by decide +kernel)) ggX5_readFlood_X5_number
theorem dX5_readFlood_0 : decode cX5_readFlood 0 = .ok (.aload_n 0, 1) := by decide +kernel
theorem dX5_readFlood_1 : decode cX5_readFlood 1 = .ok (.iconst 0, 1) := by decide +kernel
theorem dX5_readFlood_2 : decode cX5_readFlood 2 = .ok (.sipush 399, 3) := by decide +kernel
theorem dX5_readFlood_5 : decode cX5_readFlood 5 = .ok (.invokevirtual 44, 3) := by decide +kernel
theorem dX5_readFlood_8 : decode cX5_readFlood 8 = .ok (.istore_n 2, 1) := by decide +kernel
theorem dX5_readFlood_9 : decode cX5_readFlood 9 = .ok (.aload_n 0, 1) := by decide +kernel
theorem dX5_readFlood_10 : decode cX5_readFlood 10 = .ok (.iconst 1, 1) := by decide +kernel
theorem dX5_readFlood_11 : decode cX5_readFlood 11 = .ok (.bipush 9, 2) := by decide +kernel
theorem dX5_readFlood_13 : decode cX5_readFlood 13 = .ok (.invokevirtual 44, 3) := by decide +kernel
theorem dX5_readFlood_16 : decode cX5_readFlood 16 = .ok (.istore_n 3, 1) := by decide +kernel
theorem dX5_readFlood_17 : decode cX5_readFlood 17 = .ok (.aload_n 1, 1) := by decide +kernel
theorem dX5_readFlood_18 : decode cX5_readFlood 18 = .ok (.getfield 68, 3) := by decide +kernel
theorem dX5_readFlood_21 : decode cX5_readFlood 21 = .ok (.bipush 8, 2) := by decide +kernel
theorem dX5_readFlood_23 : decode cX5_readFlood 23 = .ok (.if_icmp .ge 33, 3) := by decide +kernel
theorem dX5_readFlood_26 : decode cX5_readFlood 26 = .ok (.aload_n 1, 1) := by decide +kernel
theorem dX5_readFlood_27 : decode cX5_readFlood 27 = .ok (.getfield 81, 3) := by decide +kernel
theorem dX5_readFlood_30 : decode cX5_readFlood 30 = .ok (.aload_n 1, 1) := by decide +kernel
theorem dX5_readFlood_31 : decode cX5_readFlood 31 = .ok (.getfield 68, 3) := by decide +kernel
theorem dX5_readFlood_34 : decode cX5_readFlood 34 = .ok (.iload_n 2, 1) := by decide +kernel
theorem dX5_readFlood_35 : decode cX5_readFlood 35 = .ok (.iastore, 1) := by decide +kernel
theorem dX5_readFlood_36 : decode cX5_readFlood 36 = .ok (.aload_n 1, 1) := by decide +kernel
theorem dX5_readFlood_37 : decode cX5_readFlood 37 = .ok (.getfield 84, 3) := by decide +kernel
theorem dX5_readFlood_40 : decode cX5_readFlood 40 = .ok (.aload_n 1, 1) := by decide +kernel
theorem dX5_readFlood_41 : decode cX5_readFlood 41 = .ok (.getfield 68, 3) := by decide +kernel
theorem dX5_readFlood_44 : decode cX5_readFlood 44 = .ok (.iload_n 3, 1) := by decide +kernel
theorem dX5_readFlood_45 : decode cX5_readFlood 45 = .ok (.iastore, 1) := by decide +kernel
theorem dX5_readFlood_46 : decode cX5_readFlood 46 = .ok (.aload_n 1, 1) := by decide +kernel
theorem dX5_readFlood_47 : decode cX5_readFlood 47 = .ok (.dup, 1) := by decide +kernel
theorem dX5_readFlood_48 : decode cX5_readFlood 48 = .ok (.getfield 68, 3) := by decide +kernel
theorem dX5_readFlood_51 : decode cX5_readFlood 51 = .ok (.iconst 1, 1) := by decide +kernel
theorem dX5_readFlood_52 : decode cX5_readFlood 52 = .ok (.iadd, 1) := by decide +kernel
theorem dX5_readFlood_53 : decode cX5_readFlood 53 = .ok (.putfield 68, 3) := by decide +kernel
theorem dX5_readFlood_56 : decode cX5_readFlood 56 = .ok (.return_, 1) := by decide +kernel
set_option maxRecDepth 20000 in
theorem ggX5_number_X10_kind : GoodIn wsX5_number wsX10_kind := goodIn_r _ [6, 7, 8, 9, 10, 28, 29, 30, 31, 32, 33] rfl (by decide +kernel)
set_option maxRecDepth 20000 in
theorem gX5_number_X10_kind : GoodIn wsX5_number (wsV RX5 27 RX10 yX10_kind wsX10_kind) := goodIn_app (goodIn_of _ (by decide +kernel)) ggX5_number_X10_kind
set_option maxRecDepth 20000 in
theorem ggX5_number_X10_fail : GoodIn wsX5_number wsX10_fail := goodIn_r _ [14, 7, 8, 9, 15, 28, 29, 30, 31, 32, 33] rfl (by decide +kernel)
set_option maxRecDepth 20000 in
theorem gX5_number_X10_fail : GoodIn wsX5_number (wsV RX5 33 RX10 yX10_fail wsX10_fail) := goodIn_app (goodIn_of _ (by decide +kernel)) ggX5_number_X10_fail
set_option maxRecDepth 20000 in
theorem ggX5_number_X10_value : GoodIn wsX5_number wsX10_value := goodIn_r _ [19, 8, 9, 20, 28, 29, 30, 31, 32, 33] rfl (by decide +kernel)
set_option maxRecDepth 20000 in
theorem gX5_number_X10_value : GoodIn wsX5_number (wsV RX5 87 RX10 yX10_value wsX10_value) := goodIn_app (goodIn_of _ (by decide +kernel)) ggX5_number_X10_value
set_option maxRecDepth 20000 in
theorem ggX5_number_X10_next : GoodIn wsX5_number wsX10_next := goodIn_r _ [24, 8, 9, 28, 29, 30, 31, 32, 33] rfl (by decide +kernel)
set_option maxRecDepth 20000 in
theorem gX5_number_X10_next : GoodIn wsX5_number (wsV RX5 37 RX10 yX10_next wsX10_next) := goodIn_app (goodIn_of _ (by decide +kernel)) ggX5_number_X10_next
theorem dX5_number_0 : decode cX5_number 0 = .ok (.aload_n 0, 1) := by decide +kernel
theorem dX5_number_1 : decode cX5_number 1 = .ok (.getfield 7, 3) := by decide +kernel
theorem dX5_number_4 : decode cX5_number 4 = .ok (.invokevirtual 27, 3) := by decide +kernel
theorem dX5_number_7 : decode cX5_number 7 = .ok (.iconst 2, 1) := by decide +kernel
theorem dX5_number_8 : decode cX5_number 8 = .ok (.if_icmp .eq 13, 3) := by decide +kernel
theorem dX5_number_11 : decode cX5_number 11 = .ok (.aload_n 0, 1) := by decide +kernel
theorem dX5_number_12 : decode cX5_number 12 = .ok (.getfield 7, 3) := by decide +kernel
theorem dX5_number_15 : decode cX5_number 15 = .ok (.iconst 0, 1) := by decide +kernel
theorem dX5_number_16 : decode cX5_number 16 = .ok (.invokevirtual 33, 3) := by decide +kernel
theorem dX5_number_19 : decode cX5_number 19 = .ok (.iload_n 1, 1) := by decide +kernel
theorem dX5_number_20 : decode cX5_number 20 = .ok (.ireturn, 1) := by decide +kernel
theorem dX5_number_21 : decode cX5_number 21 = .ok (.aload_n 0, 1) := by decide +kernel
theorem dX5_number_22 : decode cX5_number 22 = .ok (.getfield 7, 3) := by decide +kernel
theorem dX5_number_25 : decode cX5_number 25 = .ok (.invokevirtual 87, 3) := by decide +kernel
theorem dX5_number_28 : decode cX5_number 28 = .ok (.istore_n 3, 1) := by decide +kernel
theorem dX5_number_29 : decode cX5_number 29 = .ok (.iload_n 3, 1) := by decide +kernel
theorem dX5_number_30 : decode cX5_number 30 = .ok (.iload_n 1, 1) := by decide +kernel
theorem dX5_number_31 : decode cX5_number 31 = .ok (.if_icmp .lt 8, 3) := by decide +kernel
theorem dX5_number_34 : decode cX5_number 34 = .ok (.iload_n 3, 1) := by decide +kernel
theorem dX5_number_35 : decode cX5_number 35 = .ok (.iload_n 2, 1) := by decide +kernel
theorem dX5_number_36 : decode cX5_number 36 = .ok (.if_icmp .le 13, 3) := by decide +kernel
theorem dX5_number_39 : decode cX5_number 39 = .ok (.aload_n 0, 1) := by decide +kernel
theorem dX5_number_40 : decode cX5_number 40 = .ok (.getfield 7, 3) := by decide +kernel
theorem dX5_number_43 : decode cX5_number 43 = .ok (.iconst 1, 1) := by decide +kernel
theorem dX5_number_44 : decode cX5_number 44 = .ok (.invokevirtual 33, 3) := by decide +kernel
theorem dX5_number_47 : decode cX5_number 47 = .ok (.iload_n 1, 1) := by decide +kernel
theorem dX5_number_48 : decode cX5_number 48 = .ok (.ireturn, 1) := by decide +kernel
theorem dX5_number_49 : decode cX5_number 49 = .ok (.aload_n 0, 1) := by decide +kernel
theorem dX5_number_50 : decode cX5_number 50 = .ok (.getfield 7, 3) := by decide +kernel
theorem dX5_number_53 : decode cX5_number 53 = .ok (.invokevirtual 37, 3) := by decide +kernel
theorem dX5_number_56 : decode cX5_number 56 = .ok (.iload_n 3, 1) := by decide +kernel
theorem dX5_number_57 : decode cX5_number 57 = .ok (.ireturn, 1) := by decide +kernel
theorem dX6_init_0 : decode cX6_init 0 = .ok (.aload_n 0, 1) := by decide +kernel
theorem dX6_init_1 : decode cX6_init 1 = .ok (.invokespecial 1, 3) := by decide +kernel
theorem dX6_init_4 : decode cX6_init 4 = .ok (.aload_n 0, 1) := by decide +kernel
theorem dX6_init_5 : decode cX6_init 5 = .ok (.iload_n 1, 1) := by decide +kernel
theorem dX6_init_6 : decode cX6_init 6 = .ok (.putfield 7, 3) := by decide +kernel
theorem dX6_init_9 : decode cX6_init 9 = .ok (.aload_n 0, 1) := by decide +kernel
theorem dX6_init_10 : decode cX6_init 10 = .ok (.aload_n 2, 1) := by decide +kernel
theorem dX6_init_11 : decode cX6_init 11 = .ok (.putfield 13, 3) := by decide +kernel
theorem dX6_init_14 : decode cX6_init 14 = .ok (.aload_n 0, 1) := by decide +kernel
theorem dX6_init_15 : decode cX6_init 15 = .ok (.aload_n 3, 1) := by decide +kernel
theorem dX6_init_16 : decode cX6_init 16 = .ok (.putfield 17, 3) := by decide +kernel
theorem dX6_init_19 : decode cX6_init 19 = .ok (.aload_n 0, 1) := by decide +kernel
theorem dX6_init_20 : decode cX6_init 20 = .ok (.aload 4, 2) := by decide +kernel
theorem dX6_init_22 : decode cX6_init 22 = .ok (.putfield 20, 3) := by decide +kernel
theorem dX6_init_25 : decode cX6_init 25 = .ok (.aload_n 0, 1) := by decide +kernel
theorem dX6_init_26 : decode cX6_init 26 = .ok (.aload 5, 2) := by decide +kernel
theorem dX6_init_28 : decode cX6_init 28 = .ok (.putfield 23, 3) := by decide +kernel
theorem dX6_init_31 : decode cX6_init 31 = .ok (.return_, 1) := by decide +kernel
theorem dX7_init_0 : decode cX7_init 0 = .ok (.aload_n 0, 1) := by decide +kernel
theorem dX7_init_1 : decode cX7_init 1 = .ok (.invokespecial 3, 3) := by decide +kernel
theorem dX7_init_4 : decode cX7_init 4 = .ok (.aload_n 0, 1) := by decide +kernel
theorem dX7_init_5 : decode cX7_init 5 = .ok (.bipush 12, 2) := by decide +kernel
theorem dX7_init_7 : decode cX7_init 7 = .ok (.newarray .int, 2) := by decide +kernel
theorem dX7_init_9 : decode cX7_init 9 = .ok (.putfield 11, 3) := by decide +kernel
theorem dX7_init_12 : decode cX7_init 12 = .ok (.aload_n 0, 1) := by decide +kernel
theorem dX7_init_13 : decode cX7_init 13 = .ok (.bipush 13, 2) := by decide +kernel
theorem dX7_init_15 : decode cX7_init 15 = .ok (.newarray .int, 2) := by decide +kernel
theorem dX7_init_17 : decode cX7_init 17 = .ok (.putfield 17, 3) := by decide +kernel
theorem dX7_init_20 : decode cX7_init 20 = .ok (.aload_n 0, 1) := by decide +kernel
theorem dX7_init_21 : decode cX7_init 21 = .ok (.bipush 12, 2) := by decide +kernel
theorem dX7_init_23 : decode cX7_init 23 = .ok (.newarray .int, 2) := by decide +kernel
theorem dX7_init_25 : decode cX7_init 25 = .ok (.putfield 20, 3) := by decide +kernel
theorem dX7_init_28 : decode cX7_init 28 = .ok (.aload_n 0, 1) := by decide +kernel
theorem dX7_init_29 : decode cX7_init 29 = .ok (.sipush 400, 3) := by decide +kernel
theorem dX7_init_32 : decode cX7_init 32 = .ok (.newarray .int, 2) := by decide +kernel
theorem dX7_init_34 : decode cX7_init 34 = .ok (.putfield 23, 3) := by decide +kernel
theorem dX7_init_37 : decode cX7_init 37 = .ok (.aload_n 0, 1) := by decide +kernel
theorem dX7_init_38 : decode cX7_init 38 = .ok (.aload_n 1, 1) := by decide +kernel
theorem dX7_init_39 : decode cX7_init 39 = .ok (.putfield 26, 3) := by decide +kernel
theorem dX7_init_42 : decode cX7_init 42 = .ok (.return_, 1) := by decide +kernel
set_option maxRecDepth 20000 in
theorem ggX7_read_X7_readClause : GoodIn wsX7_read wsX7_readClause := goodIn_r _ [15, 3, 7, 8, 1, 9, 16, 17, 18, 19, 20, 21, 22, 23, 24, 25, 26, 27, 28, 29, 30, 31, 32, 33, 34, 35, 36, 14, 37, 38, 39, 40, 41, 2, 42, 43, 44, 45, 46, 47, 48, 49, 50, 10, 51, 52, 53, 54, 55, 56, 57, 58, 59, 60, 61, 62, 63, 64, 65, 66, 97, 98, 99, 100, 101, 102, 103, 109, 110, 111, 112, 113, 114] rfl (by decide +kernel)
set_option maxRecDepth 20000 in
theorem gX7_read_X7_readClause : GoodIn wsX7_read (wsV RX7 37 RX7 yX7_readClause wsX7_readClause) := goodIn_app (goodIn_of _ (by decide +kernel)) ggX7_read_X7_readClause
set_option maxRecDepth 20000 in
theorem ggX7_read_X10_kind : GoodIn wsX7_read wsX10_kind := goodIn_r _ [20, 21, 22, 23, 24, 109, 110, 111, 112, 113, 114] rfl (by decide +kernel)
set_option maxRecDepth 20000 in
theorem gX7_read_X10_kind : GoodIn wsX7_read (wsV RX7 41 RX10 yX10_kind wsX10_kind) := goodIn_app (goodIn_of _ (by decide +kernel)) ggX7_read_X10_kind
set_option maxRecDepth 20000 in
theorem ggX7_read_J7_copyOf_59c91 : GoodIn wsX7_read wsJ7_copyOf_59c91 := goodIn_r _ [70, 71, 72, 73, 74, 75, 76, 77, 78, 79, 80, 81, 82, 83, 84, 85] rfl (by decide +kernel)
set_option maxRecDepth 20000 in
theorem gX7_read_J7_copyOf_59c91 : GoodIn wsX7_read (va_wsS RX7 47 yJ7_copyOf_59c91 wsJ7_copyOf_59c91) := goodIn_app (goodIn_of _ (by decide +kernel)) ggX7_read_J7_copyOf_59c91
set_option maxRecDepth 20000 in
theorem ggX7_read_X6_init : GoodIn wsX7_read wsX6_init := goodIn_r _ [88, 89, 90, 91, 92, 93, 94, 95, 96, 104, 105, 106, 107, 108] rfl (by decide +kernel)
set_option maxRecDepth 20000 in
theorem gX7_read_X6_init : GoodIn wsX7_read (wsX6_init) := ggX7_read_X6_init
set_option maxRecDepth 20000 in
theorem ggX7_read_X10_fail : GoodIn wsX7_read wsX10_fail := goodIn_r _ [28, 21, 22, 23, 29, 109, 110, 111, 112, 113, 114] rfl (by decide +kernel)
set_option maxRecDepth 20000 in
theorem gX7_read_X10_fail : GoodIn wsX7_read (wsV RX7 56 RX10 yX10_fail wsX10_fail) := goodIn_app (goodIn_of _ (by decide +kernel)) ggX7_read_X10_fail
set_option maxRecDepth 20000 in
theorem ggX7_read_X10_next : GoodIn wsX7_read wsX10_next := goodIn_r _ [33, 22, 23, 109, 110, 111, 112, 113, 114] rfl (by decide +kernel)
set_option maxRecDepth 20000 in
theorem gX7_read_X10_next : GoodIn wsX7_read (wsV RX7 59 RX10 yX10_next wsX10_next) := goodIn_app (goodIn_of _ (by decide +kernel)) ggX7_read_X10_next
theorem dX7_read_0 : decode cX7_read 0 = .ok (.aload_n 0, 1) := by decide +kernel
theorem dX7_read_1 : decode cX7_read 1 = .ok (.iconst 0, 1) := by decide +kernel
theorem dX7_read_2 : decode cX7_read 2 = .ok (.putfield 30, 3) := by decide +kernel
theorem dX7_read_5 : decode cX7_read 5 = .ok (.aload_n 0, 1) := by decide +kernel
theorem dX7_read_6 : decode cX7_read 6 = .ok (.iconst 0, 1) := by decide +kernel
theorem dX7_read_7 : decode cX7_read 7 = .ok (.putfield 34, 3) := by decide +kernel
theorem dX7_read_10 : decode cX7_read 10 = .ok (.iconst 0, 1) := by decide +kernel
theorem dX7_read_11 : decode cX7_read 11 = .ok (.istore_n 1, 1) := by decide +kernel
theorem dX7_read_12 : decode cX7_read 12 = .ok (.iload_n 1, 1) := by decide +kernel
theorem dX7_read_13 : decode cX7_read 13 = .ok (.bipush 12, 2) := by decide +kernel
theorem dX7_read_15 : decode cX7_read 15 = .ok (.if_icmp .gt 105, 3) := by decide +kernel
theorem dX7_read_18 : decode cX7_read 18 = .ok (.aload_n 0, 1) := by decide +kernel
theorem dX7_read_19 : decode cX7_read 19 = .ok (.iload_n 1, 1) := by decide +kernel
theorem dX7_read_20 : decode cX7_read 20 = .ok (.invokevirtual 37, 3) := by decide +kernel
theorem dX7_read_23 : decode cX7_read 23 = .ok (.aload_n 0, 1) := by decide +kernel
theorem dX7_read_24 : decode cX7_read 24 = .ok (.getfield 26, 3) := by decide +kernel
theorem dX7_read_27 : decode cX7_read 27 = .ok (.invokevirtual 41, 3) := by decide +kernel
theorem dX7_read_30 : decode cX7_read 30 = .ok (.ifCond .ne 55, 3) := by decide +kernel
theorem dX7_read_33 : decode cX7_read 33 = .ok (.new 9, 3) := by decide +kernel
theorem dX7_read_36 : decode cX7_read 36 = .ok (.dup, 1) := by decide +kernel
theorem dX7_read_37 : decode cX7_read 37 = .ok (.iload_n 1, 1) := by decide +kernel
theorem dX7_read_38 : decode cX7_read 38 = .ok (.iconst 1, 1) := by decide +kernel
theorem dX7_read_39 : decode cX7_read 39 = .ok (.iadd, 1) := by decide +kernel
theorem dX7_read_40 : decode cX7_read 40 = .ok (.aload_n 0, 1) := by decide +kernel
theorem dX7_read_41 : decode cX7_read 41 = .ok (.getfield 11, 3) := by decide +kernel
theorem dX7_read_44 : decode cX7_read 44 = .ok (.iload_n 1, 1) := by decide +kernel
theorem dX7_read_45 : decode cX7_read 45 = .ok (.iconst 1, 1) := by decide +kernel
theorem dX7_read_46 : decode cX7_read 46 = .ok (.iadd, 1) := by decide +kernel
theorem dX7_read_47 : decode cX7_read 47 = .ok (.invokestatic 47, 3) := by decide +kernel
theorem dX7_read_50 : decode cX7_read 50 = .ok (.aload_n 0, 1) := by decide +kernel
theorem dX7_read_51 : decode cX7_read 51 = .ok (.getfield 17, 3) := by decide +kernel
theorem dX7_read_54 : decode cX7_read 54 = .ok (.iload_n 1, 1) := by decide +kernel
theorem dX7_read_55 : decode cX7_read 55 = .ok (.iconst 2, 1) := by decide +kernel
theorem dX7_read_56 : decode cX7_read 56 = .ok (.iadd, 1) := by decide +kernel
theorem dX7_read_57 : decode cX7_read 57 = .ok (.invokestatic 47, 3) := by decide +kernel
theorem dX7_read_60 : decode cX7_read 60 = .ok (.aload_n 0, 1) := by decide +kernel
theorem dX7_read_61 : decode cX7_read 61 = .ok (.getfield 20, 3) := by decide +kernel
theorem dX7_read_64 : decode cX7_read 64 = .ok (.iload_n 1, 1) := by decide +kernel
theorem dX7_read_65 : decode cX7_read 65 = .ok (.iconst 1, 1) := by decide +kernel
theorem dX7_read_66 : decode cX7_read 66 = .ok (.iadd, 1) := by decide +kernel
theorem dX7_read_67 : decode cX7_read 67 = .ok (.invokestatic 47, 3) := by decide +kernel
theorem dX7_read_70 : decode cX7_read 70 = .ok (.aload_n 0, 1) := by decide +kernel
theorem dX7_read_71 : decode cX7_read 71 = .ok (.getfield 23, 3) := by decide +kernel
theorem dX7_read_74 : decode cX7_read 74 = .ok (.aload_n 0, 1) := by decide +kernel
theorem dX7_read_75 : decode cX7_read 75 = .ok (.getfield 30, 3) := by decide +kernel
theorem dX7_read_78 : decode cX7_read 78 = .ok (.invokestatic 47, 3) := by decide +kernel
theorem dX7_read_81 : decode cX7_read 81 = .ok (.invokespecial 53, 3) := by decide +kernel
theorem dX7_read_84 : decode cX7_read 84 = .ok (.areturn, 1) := by decide +kernel
theorem dX7_read_85 : decode cX7_read 85 = .ok (.aload_n 0, 1) := by decide +kernel
theorem dX7_read_86 : decode cX7_read 86 = .ok (.getfield 26, 3) := by decide +kernel
theorem dX7_read_89 : decode cX7_read 89 = .ok (.invokevirtual 41, 3) := by decide +kernel
theorem dX7_read_92 : decode cX7_read 92 = .ok (.bipush 59, 2) := by decide +kernel
theorem dX7_read_94 : decode cX7_read 94 = .ok (.if_icmp .eq 13, 3) := by decide +kernel
theorem dX7_read_97 : decode cX7_read 97 = .ok (.aload_n 0, 1) := by decide +kernel
theorem dX7_read_98 : decode cX7_read 98 = .ok (.getfield 26, 3) := by decide +kernel
theorem dX7_read_101 : decode cX7_read 101 = .ok (.iconst 0, 1) := by decide +kernel
theorem dX7_read_102 : decode cX7_read 102 = .ok (.invokevirtual 56, 3) := by decide +kernel
theorem dX7_read_105 : decode cX7_read 105 = .ok (.aconst_null, 1) := by decide +kernel
theorem dX7_read_106 : decode cX7_read 106 = .ok (.areturn, 1) := by decide +kernel
theorem dX7_read_107 : decode cX7_read 107 = .ok (.aload_n 0, 1) := by decide +kernel
theorem dX7_read_108 : decode cX7_read 108 = .ok (.getfield 26, 3) := by decide +kernel
theorem dX7_read_111 : decode cX7_read 111 = .ok (.invokevirtual 59, 3) := by decide +kernel
theorem dX7_read_114 : decode cX7_read 114 = .ok (.iinc 1 1, 3) := by decide +kernel
theorem dX7_read_117 : decode cX7_read 117 = .ok (.goto (-105), 3) := by decide +kernel
theorem dX7_read_120 : decode cX7_read 120 = .ok (.aconst_null, 1) := by decide +kernel
theorem dX7_read_121 : decode cX7_read 121 = .ok (.areturn, 1) := by decide +kernel
set_option maxRecDepth 20000 in
theorem ggX7_readClause_X10_kind : GoodIn wsX7_readClause wsX10_kind := goodIn_r _ [10, 11, 12, 13, 14, 67, 68, 69, 70, 71, 72] rfl (by decide +kernel)
set_option maxRecDepth 20000 in
theorem gX7_readClause_X10_kind : GoodIn wsX7_readClause (wsV RX7 41 RX10 yX10_kind wsX10_kind) := goodIn_app (goodIn_of _ (by decide +kernel)) ggX7_readClause_X10_kind
set_option maxRecDepth 20000 in
theorem ggX7_readClause_X10_fail : GoodIn wsX7_readClause wsX10_fail := goodIn_r _ [18, 11, 12, 13, 19, 67, 68, 69, 70, 71, 72] rfl (by decide +kernel)
set_option maxRecDepth 20000 in
theorem gX7_readClause_X10_fail : GoodIn wsX7_readClause (wsV RX7 56 RX10 yX10_fail wsX10_fail) := goodIn_app (goodIn_of _ (by decide +kernel)) ggX7_readClause_X10_fail
set_option maxRecDepth 20000 in
theorem ggX7_readClause_X10_next : GoodIn wsX7_readClause wsX10_next := goodIn_r _ [23, 12, 13, 67, 68, 69, 70, 71, 72] rfl (by decide +kernel)
set_option maxRecDepth 20000 in
theorem gX7_readClause_X10_next : GoodIn wsX7_readClause (wsV RX7 59 RX10 yX10_next wsX10_next) := goodIn_app (goodIn_of _ (by decide +kernel)) ggX7_readClause_X10_next
set_option maxRecDepth 20000 in
theorem ggX7_readClause_X7_readSum : GoodIn wsX7_readClause wsX7_readSum := goodIn_r _ [28, 1, 29, 30, 31, 27, 32, 33, 6, 7, 8, 9, 10, 11, 12, 13, 14, 15, 16, 17, 18, 19, 34, 35, 36, 37, 38, 39, 40, 41, 42, 4, 43, 20, 21, 22, 23, 60, 61, 62, 63, 64, 65, 66, 67, 68, 69, 70, 71, 72] rfl (by decide +kernel)
set_option maxRecDepth 20000 in
theorem gX7_readClause_X7_readSum : GoodIn wsX7_readClause (wsV RX7 62 RX7 yX7_readSum wsX7_readSum) := goodIn_app (goodIn_of _ (by decide +kernel)) ggX7_readClause_X7_readSum
set_option maxRecDepth 20000 in
theorem ggX7_readClause_X7_readTest : GoodIn wsX7_readClause wsX7_readTest := goodIn_r _ [47, 1, 48, 49, 50, 27, 6, 7, 8, 9, 10, 11, 12, 13, 14, 20, 21, 22, 23, 39, 40, 41, 42, 4, 43, 51, 15, 16, 17, 18, 19, 44, 45, 46, 52, 53, 54, 55, 24, 25, 26, 28, 29, 30, 31, 32, 33, 34, 35, 36, 37, 38, 56, 57, 58, 59, 60, 61, 62, 63, 64, 65, 66, 67, 68, 69, 70, 71, 72] rfl (by decide +kernel)
set_option maxRecDepth 20000 in
theorem gX7_readClause_X7_readTest : GoodIn wsX7_readClause (wsV RX7 65 RX7 yX7_readTest wsX7_readTest) := goodIn_app (goodIn_of _ (by decide +kernel)) ggX7_readClause_X7_readTest
theorem dX7_readClause_0 : decode cX7_readClause 0 = .ok (.aload_n 0, 1) := by decide +kernel
theorem dX7_readClause_1 : decode cX7_readClause 1 = .ok (.getfield 26, 3) := by decide +kernel
theorem dX7_readClause_4 : decode cX7_readClause 4 = .ok (.invokevirtual 41, 3) := by decide +kernel
theorem dX7_readClause_7 : decode cX7_readClause 7 = .ok (.istore_n 2, 1) := by decide +kernel
theorem dX7_readClause_8 : decode cX7_readClause 8 = .ok (.iload_n 2, 1) := by decide +kernel
theorem dX7_readClause_9 : decode cX7_readClause 9 = .ok (.sipush 262, 3) := by decide +kernel
theorem dX7_readClause_12 : decode cX7_readClause 12 = .ok (.if_icmp .lt 10, 3) := by decide +kernel
theorem dX7_readClause_15 : decode cX7_readClause 15 = .ok (.iload_n 2, 1) := by decide +kernel
theorem dX7_readClause_16 : decode cX7_readClause 16 = .ok (.sipush 265, 3) := by decide +kernel
theorem dX7_readClause_19 : decode cX7_readClause 19 = .ok (.if_icmp .le 12, 3) := by decide +kernel
theorem dX7_readClause_22 : decode cX7_readClause 22 = .ok (.aload_n 0, 1) := by decide +kernel
theorem dX7_readClause_23 : decode cX7_readClause 23 = .ok (.getfield 26, 3) := by decide +kernel
theorem dX7_readClause_26 : decode cX7_readClause 26 = .ok (.iconst 0, 1) := by decide +kernel
theorem dX7_readClause_27 : decode cX7_readClause 27 = .ok (.invokevirtual 56, 3) := by decide +kernel
theorem dX7_readClause_30 : decode cX7_readClause 30 = .ok (.return_, 1) := by decide +kernel
theorem dX7_readClause_31 : decode cX7_readClause 31 = .ok (.iload_n 1, 1) := by decide +kernel
theorem dX7_readClause_32 : decode cX7_readClause 32 = .ok (.bipush 12, 2) := by decide +kernel
theorem dX7_readClause_34 : decode cX7_readClause 34 = .ok (.if_icmp .lt 12, 3) := by decide +kernel
theorem dX7_readClause_37 : decode cX7_readClause 37 = .ok (.aload_n 0, 1) := by decide +kernel
theorem dX7_readClause_38 : decode cX7_readClause 38 = .ok (.getfield 26, 3) := by decide +kernel
theorem dX7_readClause_41 : decode cX7_readClause 41 = .ok (.iconst 4, 1) := by decide +kernel
theorem dX7_readClause_42 : decode cX7_readClause 42 = .ok (.invokevirtual 56, 3) := by decide +kernel
theorem dX7_readClause_45 : decode cX7_readClause 45 = .ok (.return_, 1) := by decide +kernel
theorem dX7_readClause_46 : decode cX7_readClause 46 = .ok (.aload_n 0, 1) := by decide +kernel
theorem dX7_readClause_47 : decode cX7_readClause 47 = .ok (.getfield 26, 3) := by decide +kernel
theorem dX7_readClause_50 : decode cX7_readClause 50 = .ok (.invokevirtual 59, 3) := by decide +kernel
theorem dX7_readClause_53 : decode cX7_readClause 53 = .ok (.aload_n 0, 1) := by decide +kernel
theorem dX7_readClause_54 : decode cX7_readClause 54 = .ok (.getfield 11, 3) := by decide +kernel
theorem dX7_readClause_57 : decode cX7_readClause 57 = .ok (.iload_n 1, 1) := by decide +kernel
theorem dX7_readClause_58 : decode cX7_readClause 58 = .ok (.iload_n 2, 1) := by decide +kernel
theorem dX7_readClause_59 : decode cX7_readClause 59 = .ok (.iastore, 1) := by decide +kernel
theorem dX7_readClause_60 : decode cX7_readClause 60 = .ok (.aload_n 0, 1) := by decide +kernel
theorem dX7_readClause_61 : decode cX7_readClause 61 = .ok (.getfield 17, 3) := by decide +kernel
theorem dX7_readClause_64 : decode cX7_readClause 64 = .ok (.iload_n 1, 1) := by decide +kernel
theorem dX7_readClause_65 : decode cX7_readClause 65 = .ok (.aload_n 0, 1) := by decide +kernel
theorem dX7_readClause_66 : decode cX7_readClause 66 = .ok (.getfield 30, 3) := by decide +kernel
theorem dX7_readClause_69 : decode cX7_readClause 69 = .ok (.iastore, 1) := by decide +kernel
theorem dX7_readClause_70 : decode cX7_readClause 70 = .ok (.iload_n 2, 1) := by decide +kernel
theorem dX7_readClause_71 : decode cX7_readClause 71 = .ok (.sipush 262, 3) := by decide +kernel
theorem dX7_readClause_74 : decode cX7_readClause 74 = .ok (.if_icmp .eq 10, 3) := by decide +kernel
theorem dX7_readClause_77 : decode cX7_readClause 77 = .ok (.iload_n 2, 1) := by decide +kernel
theorem dX7_readClause_78 : decode cX7_readClause 78 = .ok (.sipush 263, 3) := by decide +kernel
theorem dX7_readClause_81 : decode cX7_readClause 81 = .ok (.if_icmp .ne 7, 3) := by decide +kernel
theorem dX7_readClause_84 : decode cX7_readClause 84 = .ok (.iconst 1, 1) := by decide +kernel
theorem dX7_readClause_85 : decode cX7_readClause 85 = .ok (.goto 4, 3) := by decide +kernel
theorem dX7_readClause_88 : decode cX7_readClause 88 = .ok (.iconst 0, 1) := by decide +kernel
theorem dX7_readClause_89 : decode cX7_readClause 89 = .ok (.istore_n 3, 1) := by decide +kernel
theorem dX7_readClause_90 : decode cX7_readClause 90 = .ok (.iload_n 3, 1) := by decide +kernel
theorem dX7_readClause_91 : decode cX7_readClause 91 = .ok (.ifCond .eq 7, 3) := by decide +kernel
theorem dX7_readClause_94 : decode cX7_readClause 94 = .ok (.aload_n 0, 1) := by decide +kernel
theorem dX7_readClause_95 : decode cX7_readClause 95 = .ok (.invokevirtual 62, 3) := by decide +kernel
theorem dX7_readClause_98 : decode cX7_readClause 98 = .ok (.aload_n 0, 1) := by decide +kernel
theorem dX7_readClause_99 : decode cX7_readClause 99 = .ok (.getfield 20, 3) := by decide +kernel
theorem dX7_readClause_102 : decode cX7_readClause 102 = .ok (.iload_n 1, 1) := by decide +kernel
theorem dX7_readClause_103 : decode cX7_readClause 103 = .ok (.aload_n 0, 1) := by decide +kernel
theorem dX7_readClause_104 : decode cX7_readClause 104 = .ok (.getfield 30, 3) := by decide +kernel
theorem dX7_readClause_107 : decode cX7_readClause 107 = .ok (.iastore, 1) := by decide +kernel
theorem dX7_readClause_108 : decode cX7_readClause 108 = .ok (.iload_n 3, 1) := by decide +kernel
theorem dX7_readClause_109 : decode cX7_readClause 109 = .ok (.ifCond .ne 11, 3) := by decide +kernel
theorem dX7_readClause_112 : decode cX7_readClause 112 = .ok (.aload_n 0, 1) := by decide +kernel
theorem dX7_readClause_113 : decode cX7_readClause 113 = .ok (.iconst 0, 1) := by decide +kernel
theorem dX7_readClause_114 : decode cX7_readClause 114 = .ok (.invokevirtual 65, 3) := by decide +kernel
theorem dX7_readClause_117 : decode cX7_readClause 117 = .ok (.goto 28, 3) := by decide +kernel
theorem dX7_readClause_120 : decode cX7_readClause 120 = .ok (.aload_n 0, 1) := by decide +kernel
theorem dX7_readClause_121 : decode cX7_readClause 121 = .ok (.getfield 26, 3) := by decide +kernel
theorem dX7_readClause_124 : decode cX7_readClause 124 = .ok (.invokevirtual 41, 3) := by decide +kernel
theorem dX7_readClause_127 : decode cX7_readClause 127 = .ok (.sipush 266, 3) := by decide +kernel
theorem dX7_readClause_130 : decode cX7_readClause 130 = .ok (.if_icmp .ne 15, 3) := by decide +kernel
theorem dX7_readClause_133 : decode cX7_readClause 133 = .ok (.aload_n 0, 1) := by decide +kernel
theorem dX7_readClause_134 : decode cX7_readClause 134 = .ok (.getfield 26, 3) := by decide +kernel
theorem dX7_readClause_137 : decode cX7_readClause 137 = .ok (.invokevirtual 59, 3) := by decide +kernel
theorem dX7_readClause_140 : decode cX7_readClause 140 = .ok (.aload_n 0, 1) := by decide +kernel
theorem dX7_readClause_141 : decode cX7_readClause 141 = .ok (.iconst 0, 1) := by decide +kernel
theorem dX7_readClause_142 : decode cX7_readClause 142 = .ok (.invokevirtual 65, 3) := by decide +kernel
theorem dX7_readClause_145 : decode cX7_readClause 145 = .ok (.aload_n 0, 1) := by decide +kernel
theorem dX7_readClause_146 : decode cX7_readClause 146 = .ok (.getfield 17, 3) := by decide +kernel
theorem dX7_readClause_149 : decode cX7_readClause 149 = .ok (.iload_n 1, 1) := by decide +kernel
theorem dX7_readClause_150 : decode cX7_readClause 150 = .ok (.iconst 1, 1) := by decide +kernel
theorem dX7_readClause_151 : decode cX7_readClause 151 = .ok (.iadd, 1) := by decide +kernel
theorem dX7_readClause_152 : decode cX7_readClause 152 = .ok (.aload_n 0, 1) := by decide +kernel
theorem dX7_readClause_153 : decode cX7_readClause 153 = .ok (.getfield 30, 3) := by decide +kernel
theorem dX7_readClause_156 : decode cX7_readClause 156 = .ok (.iastore, 1) := by decide +kernel
theorem dX7_readClause_157 : decode cX7_readClause 157 = .ok (.return_, 1) := by decide +kernel
set_option maxRecDepth 20000 in
theorem ggX7_readTest_X7_readFact : GoodIn wsX7_readTest wsX7_readFact := goodIn_r _ [25, 1, 6, 7, 8, 9, 10, 11, 12, 13, 14, 15, 16, 17, 18, 26, 27, 28, 29, 30, 31, 32, 33, 5, 34, 35, 36, 37, 38, 39, 40, 41, 42, 43, 44, 45, 46, 47, 48, 49, 50, 51, 19, 20, 21, 22, 23, 24, 52, 53, 54, 55, 0, 2, 3, 4, 56, 57, 58, 59, 60, 61, 62, 63, 64, 65, 66, 67, 68] rfl (by decide +kernel)
set_option maxRecDepth 20000 in
theorem gX7_readTest_X7_readFact : GoodIn wsX7_readTest (wsV RX7 68 RX7 yX7_readFact wsX7_readFact) := goodIn_app (goodIn_of _ (by decide +kernel)) ggX7_readTest_X7_readFact
set_option maxRecDepth 20000 in
theorem ggX7_readTest_X10_kind : GoodIn wsX7_readTest wsX10_kind := goodIn_r _ [10, 11, 12, 13, 14, 63, 64, 65, 66, 67, 68] rfl (by decide +kernel)
set_option maxRecDepth 20000 in
theorem gX7_readTest_X10_kind : GoodIn wsX7_readTest (wsV RX7 41 RX10 yX10_kind wsX10_kind) := goodIn_app (goodIn_of _ (by decide +kernel)) ggX7_readTest_X10_kind
set_option maxRecDepth 20000 in
theorem ggX7_readTest_X10_next : GoodIn wsX7_readTest wsX10_next := goodIn_r _ [18, 12, 13, 63, 64, 65, 66, 67, 68] rfl (by decide +kernel)
set_option maxRecDepth 20000 in
theorem gX7_readTest_X10_next : GoodIn wsX7_readTest (wsV RX7 59 RX10 yX10_next wsX10_next) := goodIn_app (goodIn_of _ (by decide +kernel)) ggX7_readTest_X10_next
set_option maxRecDepth 20000 in
theorem ggX7_readTest_X7_put : GoodIn wsX7_readTest wsX7_put := goodIn_r _ [22, 23, 24, 56, 57, 58, 59, 60, 61, 62] rfl (by decide +kernel)
set_option maxRecDepth 20000 in
theorem gX7_readTest_X7_put : GoodIn wsX7_readTest (wsV RX7 71 RX7 yX7_put wsX7_put) := goodIn_app (goodIn_of _ (by decide +kernel)) ggX7_readTest_X7_put
theorem dX7_readTest_0 : decode cX7_readTest 0 = .ok (.iconst 0, 1) := by decide +kernel
theorem dX7_readTest_1 : decode cX7_readTest 1 = .ok (.istore_n 2, 1) := by decide +kernel
theorem dX7_readTest_2 : decode cX7_readTest 2 = .ok (.iload_n 2, 1) := by decide +kernel
