theorem dX12_areInchesHere_25 : decode cX12_areInchesHere 25 = .ok (.ifCond .ne 5, 3) := by decide +kernel
theorem dX12_areInchesHere_28 : decode cX12_areInchesHere 28 = .ok (.iconst 0, 1) := by decide +kernel
theorem dX12_areInchesHere_29 : decode cX12_areInchesHere 29 = .ok (.ireturn, 1) := by decide +kernel
theorem dX12_areInchesHere_30 : decode cX12_areInchesHere 30 = .ok (.aload_n 0, 1) := by decide +kernel
theorem dX12_areInchesHere_31 : decode cX12_areInchesHere 31 = .ok (.aload_n 0, 1) := by decide +kernel
theorem dX12_areInchesHere_32 : decode cX12_areInchesHere 32 = .ok (.getfield 128, 3) := by decide +kernel
theorem dX12_areInchesHere_35 : decode cX12_areInchesHere 35 = .ok (.putfield 231, 3) := by decide +kernel
theorem dX12_areInchesHere_38 : decode cX12_areInchesHere 38 = .ok (.iconst 1, 1) := by decide +kernel
theorem dX12_areInchesHere_39 : decode cX12_areInchesHere 39 = .ok (.ireturn, 1) := by decide +kernel
set_option maxRecDepth 20000 in
theorem ggX12_isFloodHere_X12_fails : GoodIn wsX12_isFloodHere wsX12_fails := goodIn_r _ [8, 9, 36, 37, 38, 39, 40, 41, 42, 43, 44, 45, 46, 47, 48, 49, 50, 51, 52, 53, 54, 55, 56, 57, 58, 59, 60, 61, 62, 63, 64, 65, 66, 67, 68, 69, 70, 71, 72, 73, 74, 75, 76, 77] rfl (by decide +kernel)
set_option maxRecDepth 20000 in
theorem gX12_isFloodHere_X12_fails : GoodIn wsX12_isFloodHere (wsV RX12 124 RX12 yX12_fails wsX12_fails) := goodIn_app (goodIn_of _ (by decide +kernel)) ggX12_isFloodHere_X12_fails
set_option maxRecDepth 20000 in
theorem ggX12_isFloodHere_X12_passWord : GoodIn wsX12_isFloodHere wsX12_passWord := goodIn_r _ [13, 14, 15, 16, 17, 7, 18, 19, 20, 36, 37, 38, 39, 40, 41, 42, 43, 44, 45, 46, 47, 48, 49, 50, 51, 52, 53, 54, 55, 56, 57, 58, 59, 60, 61, 62, 63, 64, 65, 66, 67, 68, 69, 70, 71, 72, 73, 74, 75, 76, 77] rfl (by decide +kernel)
set_option maxRecDepth 20000 in
theorem gX12_isFloodHere_X12_passWord : GoodIn wsX12_isFloodHere (wsV RX12 118 RX12 yX12_passWord wsX12_passWord) := goodIn_app (goodIn_of _ (by decide +kernel)) ggX12_isFloodHere_X12_passWord
set_option maxRecDepth 20000 in
theorem ggX12_isFloodHere_X12_numberHere : GoodIn wsX12_isFloodHere wsX12_numberHere := goodIn_r _ [24, 14, 20, 3, 25, 26, 27, 7, 28, 19, 29, 30, 31, 32, 4, 5, 6, 8, 9, 33, 34, 35, 36, 37, 38, 39, 40, 41, 42, 43, 44, 45, 46, 47, 48, 49, 50, 51, 52, 53, 54, 55, 56, 57, 58, 59, 60, 61, 62, 63, 64, 65, 66, 67, 68, 69, 70, 71, 72, 73, 74, 75, 76, 77] rfl (by decide +kernel)
set_option maxRecDepth 20000 in
theorem gX12_isFloodHere_X12_numberHere : GoodIn wsX12_isFloodHere (wsV RX12 174 RX12 yX12_numberHere wsX12_numberHere) := goodIn_app (goodIn_of _ (by decide +kernel)) ggX12_isFloodHere_X12_numberHere
theorem dX12_isFloodHere_0 : decode cX12_isFloodHere 0 = .ok (.aload_n 0, 1) := by decide +kernel
theorem dX12_isFloodHere_1 : decode cX12_isFloodHere 1 = .ok (.getfield 234, 3) := by decide +kernel
theorem dX12_isFloodHere_4 : decode cX12_isFloodHere 4 = .ok (.bipush 8, 2) := by decide +kernel
theorem dX12_isFloodHere_6 : decode cX12_isFloodHere 6 = .ok (.if_icmp .ne 10, 3) := by decide +kernel
theorem dX12_isFloodHere_9 : decode cX12_isFloodHere 9 = .ok (.aload_n 0, 1) := by decide +kernel
theorem dX12_isFloodHere_10 : decode cX12_isFloodHere 10 = .ok (.iconst 4, 1) := by decide +kernel
theorem dX12_isFloodHere_11 : decode cX12_isFloodHere 11 = .ok (.iload_n 1, 1) := by decide +kernel
theorem dX12_isFloodHere_12 : decode cX12_isFloodHere 12 = .ok (.invokevirtual 124, 3) := by decide +kernel
theorem dX12_isFloodHere_15 : decode cX12_isFloodHere 15 = .ok (.ireturn, 1) := by decide +kernel
theorem dX12_isFloodHere_16 : decode cX12_isFloodHere 16 = .ok (.aload_n 0, 1) := by decide +kernel
theorem dX12_isFloodHere_17 : decode cX12_isFloodHere 17 = .ok (.invokevirtual 118, 3) := by decide +kernel
theorem dX12_isFloodHere_20 : decode cX12_isFloodHere 20 = .ok (.aload_n 0, 1) := by decide +kernel
theorem dX12_isFloodHere_21 : decode cX12_isFloodHere 21 = .ok (.iconst 0, 1) := by decide +kernel
theorem dX12_isFloodHere_22 : decode cX12_isFloodHere 22 = .ok (.sipush 399, 3) := by decide +kernel
theorem dX12_isFloodHere_25 : decode cX12_isFloodHere 25 = .ok (.invokevirtual 174, 3) := by decide +kernel
theorem dX12_isFloodHere_28 : decode cX12_isFloodHere 28 = .ok (.ifCond .ne 5, 3) := by decide +kernel
theorem dX12_isFloodHere_31 : decode cX12_isFloodHere 31 = .ok (.iconst 0, 1) := by decide +kernel
theorem dX12_isFloodHere_32 : decode cX12_isFloodHere 32 = .ok (.ireturn, 1) := by decide +kernel
theorem dX12_isFloodHere_33 : decode cX12_isFloodHere 33 = .ok (.aload_n 0, 1) := by decide +kernel
theorem dX12_isFloodHere_34 : decode cX12_isFloodHere 34 = .ok (.getfield 32, 3) := by decide +kernel
theorem dX12_isFloodHere_37 : decode cX12_isFloodHere 37 = .ok (.iconst 2, 1) := by decide +kernel
theorem dX12_isFloodHere_38 : decode cX12_isFloodHere 38 = .ok (.aload_n 0, 1) := by decide +kernel
theorem dX12_isFloodHere_39 : decode cX12_isFloodHere 39 = .ok (.getfield 234, 3) := by decide +kernel
theorem dX12_isFloodHere_42 : decode cX12_isFloodHere 42 = .ok (.imul, 1) := by decide +kernel
theorem dX12_isFloodHere_43 : decode cX12_isFloodHere 43 = .ok (.aload_n 0, 1) := by decide +kernel
theorem dX12_isFloodHere_44 : decode cX12_isFloodHere 44 = .ok (.getfield 128, 3) := by decide +kernel
theorem dX12_isFloodHere_47 : decode cX12_isFloodHere 47 = .ok (.iastore, 1) := by decide +kernel
theorem dX12_isFloodHere_48 : decode cX12_isFloodHere 48 = .ok (.aload_n 0, 1) := by decide +kernel
theorem dX12_isFloodHere_49 : decode cX12_isFloodHere 49 = .ok (.iconst 1, 1) := by decide +kernel
theorem dX12_isFloodHere_50 : decode cX12_isFloodHere 50 = .ok (.bipush 9, 2) := by decide +kernel
theorem dX12_isFloodHere_52 : decode cX12_isFloodHere 52 = .ok (.invokevirtual 174, 3) := by decide +kernel
theorem dX12_isFloodHere_55 : decode cX12_isFloodHere 55 = .ok (.ifCond .ne 5, 3) := by decide +kernel
theorem dX12_isFloodHere_58 : decode cX12_isFloodHere 58 = .ok (.iconst 0, 1) := by decide +kernel
theorem dX12_isFloodHere_59 : decode cX12_isFloodHere 59 = .ok (.ireturn, 1) := by decide +kernel
theorem dX12_isFloodHere_60 : decode cX12_isFloodHere 60 = .ok (.aload_n 0, 1) := by decide +kernel
theorem dX12_isFloodHere_61 : decode cX12_isFloodHere 61 = .ok (.getfield 32, 3) := by decide +kernel
theorem dX12_isFloodHere_64 : decode cX12_isFloodHere 64 = .ok (.iconst 2, 1) := by decide +kernel
theorem dX12_isFloodHere_65 : decode cX12_isFloodHere 65 = .ok (.aload_n 0, 1) := by decide +kernel
theorem dX12_isFloodHere_66 : decode cX12_isFloodHere 66 = .ok (.getfield 234, 3) := by decide +kernel
theorem dX12_isFloodHere_69 : decode cX12_isFloodHere 69 = .ok (.imul, 1) := by decide +kernel
theorem dX12_isFloodHere_70 : decode cX12_isFloodHere 70 = .ok (.iconst 1, 1) := by decide +kernel
theorem dX12_isFloodHere_71 : decode cX12_isFloodHere 71 = .ok (.iadd, 1) := by decide +kernel
theorem dX12_isFloodHere_72 : decode cX12_isFloodHere 72 = .ok (.aload_n 0, 1) := by decide +kernel
theorem dX12_isFloodHere_73 : decode cX12_isFloodHere 73 = .ok (.getfield 128, 3) := by decide +kernel
theorem dX12_isFloodHere_76 : decode cX12_isFloodHere 76 = .ok (.iastore, 1) := by decide +kernel
theorem dX12_isFloodHere_77 : decode cX12_isFloodHere 77 = .ok (.aload_n 0, 1) := by decide +kernel
theorem dX12_isFloodHere_78 : decode cX12_isFloodHere 78 = .ok (.dup, 1) := by decide +kernel
theorem dX12_isFloodHere_79 : decode cX12_isFloodHere 79 = .ok (.getfield 234, 3) := by decide +kernel
theorem dX12_isFloodHere_82 : decode cX12_isFloodHere 82 = .ok (.iconst 1, 1) := by decide +kernel
theorem dX12_isFloodHere_83 : decode cX12_isFloodHere 83 = .ok (.iadd, 1) := by decide +kernel
theorem dX12_isFloodHere_84 : decode cX12_isFloodHere 84 = .ok (.putfield 234, 3) := by decide +kernel
theorem dX12_isFloodHere_87 : decode cX12_isFloodHere 87 = .ok (.iconst 1, 1) := by decide +kernel
theorem dX12_isFloodHere_88 : decode cX12_isFloodHere 88 = .ok (.ireturn, 1) := by decide +kernel
set_option maxRecDepth 20000 in
theorem ggX12_riverLineHere_X12_isWord : GoodIn wsX12_riverLineHere wsX12_isWord := goodIn_r _ [11, 12, 13, 14, 15, 16, 10, 17, 18, 19, 20, 21, 22, 74, 75, 76, 77, 78, 79, 80, 81, 82, 83, 84, 85, 86, 87, 88, 89, 90, 91, 92, 93, 94, 95, 96, 97, 98, 99, 100, 101, 102, 103, 104, 105, 106, 107, 108, 109, 110, 111, 112, 113, 114, 115] rfl (by decide +kernel)
set_option maxRecDepth 20000 in
theorem gX12_riverLineHere_X12_isWord : GoodIn wsX12_riverLineHere (wsV RX12 114 RX12 yX12_isWord wsX12_isWord) := goodIn_app (goodIn_of _ (by decide +kernel)) ggX12_riverLineHere_X12_isWord
set_option maxRecDepth 20000 in
theorem ggX12_riverLineHere_X12_isWideHere : GoodIn wsX12_riverLineHere wsX12_isWideHere := goodIn_r _ [26, 2, 27, 28, 29, 30, 10, 31, 32, 33, 34, 35, 36, 12, 19, 20, 21, 22, 18, 13, 37, 38, 39, 40, 14, 15, 16, 17, 41, 42, 43, 44, 45, 46, 47, 74, 75, 76, 77, 78, 79, 80, 81, 82, 83, 84, 85, 86, 87, 88, 89, 90, 91, 92, 93, 94, 95, 96, 97, 98, 99, 100, 101, 102, 103, 104, 105, 106, 107, 108, 109, 110, 111, 112, 113, 114, 115] rfl (by decide +kernel)
set_option maxRecDepth 20000 in
theorem gX12_riverLineHere_X12_isWideHere : GoodIn wsX12_riverLineHere (wsV RX12 239 RX12 yX12_isWideHere wsX12_isWideHere) := goodIn_app (goodIn_of _ (by decide +kernel)) ggX12_riverLineHere_X12_isWideHere
set_option maxRecDepth 20000 in
theorem ggX12_riverLineHere_X12_fails : GoodIn wsX12_riverLineHere wsX12_fails := goodIn_r _ [31, 32, 74, 75, 76, 77, 78, 79, 80, 81, 82, 83, 84, 85, 86, 87, 88, 89, 90, 91, 92, 93, 94, 95, 96, 97, 98, 99, 100, 101, 102, 103, 104, 105, 106, 107, 108, 109, 110, 111, 112, 113, 114, 115] rfl (by decide +kernel)
set_option maxRecDepth 20000 in
theorem gX12_riverLineHere_X12_fails : GoodIn wsX12_riverLineHere (wsV RX12 124 RX12 yX12_fails wsX12_fails) := goodIn_app (goodIn_of _ (by decide +kernel)) ggX12_riverLineHere_X12_fails
set_option maxRecDepth 20000 in
theorem ggX12_riverLineHere_X12_isBankHere : GoodIn wsX12_riverLineHere wsX12_isBankHere := goodIn_r _ [51, 27, 52, 33, 34, 35, 10, 36, 12, 19, 20, 21, 22, 18, 13, 37, 38, 39, 40, 14, 15, 16, 17, 41, 42, 43, 44, 28, 29, 30, 31, 32, 45, 46, 47, 74, 75, 76, 77, 78, 79, 80, 81, 82, 83, 84, 85, 86, 87, 88, 89, 90, 91, 92, 93, 94, 95, 96, 97, 98, 99, 100, 101, 102, 103, 104, 105, 106, 107, 108, 109, 110, 111, 112, 113, 114, 115] rfl (by decide +kernel)
set_option maxRecDepth 20000 in
theorem gX12_riverLineHere_X12_isBankHere : GoodIn wsX12_riverLineHere (wsV RX12 244 RX12 yX12_isBankHere wsX12_isBankHere) := goodIn_app (goodIn_of _ (by decide +kernel)) ggX12_riverLineHere_X12_isBankHere
set_option maxRecDepth 20000 in
theorem ggX12_riverLineHere_X12_areEyesHere : GoodIn wsX12_riverLineHere wsX12_areEyesHere := goodIn_r _ [56, 27, 57, 33, 34, 35, 10, 36, 12, 19, 20, 21, 22, 18, 13, 37, 38, 39, 40, 14, 15, 16, 17, 41, 42, 43, 44, 28, 29, 30, 31, 32, 45, 46, 47, 74, 75, 76, 77, 78, 79, 80, 81, 82, 83, 84, 85, 86, 87, 88, 89, 90, 91, 92, 93, 94, 95, 96, 97, 98, 99, 100, 101, 102, 103, 104, 105, 106, 107, 108, 109, 110, 111, 112, 113, 114, 115] rfl (by decide +kernel)
set_option maxRecDepth 20000 in
theorem gX12_riverLineHere_X12_areEyesHere : GoodIn wsX12_riverLineHere (wsV RX12 249 RX12 yX12_areEyesHere wsX12_areEyesHere) := goodIn_app (goodIn_of _ (by decide +kernel)) ggX12_riverLineHere_X12_areEyesHere
set_option maxRecDepth 20000 in
theorem ggX12_riverLineHere_X12_isStepHere : GoodIn wsX12_riverLineHere wsX12_isStepHere := goodIn_r _ [61, 62, 27, 28, 29, 30, 10, 31, 32, 33, 34, 35, 36, 12, 19, 20, 21, 22, 18, 13, 37, 38, 39, 40, 14, 15, 16, 17, 41, 42, 43, 44, 45, 46, 47, 74, 75, 76, 77, 78, 79, 80, 81, 82, 83, 84, 85, 86, 87, 88, 89, 90, 91, 92, 93, 94, 95, 96, 97, 98, 99, 100, 101, 102, 103, 104, 105, 106, 107, 108, 109, 110, 111, 112, 113, 114, 115] rfl (by decide +kernel)
set_option maxRecDepth 20000 in
theorem gX12_riverLineHere_X12_isStepHere : GoodIn wsX12_riverLineHere (wsV RX12 254 RX12 yX12_isStepHere wsX12_isStepHere) := goodIn_app (goodIn_of _ (by decide +kernel)) ggX12_riverLineHere_X12_isStepHere
set_option maxRecDepth 20000 in
theorem ggX12_riverLineHere_X12_areInchesHere : GoodIn wsX12_riverLineHere wsX12_areInchesHere := goodIn_r _ [66, 67, 27, 28, 29, 30, 10, 31, 32, 33, 34, 35, 36, 12, 19, 20, 21, 22, 18, 13, 37, 38, 39, 40, 14, 15, 16, 17, 41, 42, 43, 44, 45, 46, 47, 74, 75, 76, 77, 78, 79, 80, 81, 82, 83, 84, 85, 86, 87, 88, 89, 90, 91, 92, 93, 94, 95, 96, 97, 98, 99, 100, 101, 102, 103, 104, 105, 106, 107, 108, 109, 110, 111, 112, 113, 114, 115] rfl (by decide +kernel)
set_option maxRecDepth 20000 in
theorem gX12_riverLineHere_X12_areInchesHere : GoodIn wsX12_riverLineHere (wsV RX12 259 RX12 yX12_areInchesHere wsX12_areInchesHere) := goodIn_app (goodIn_of _ (by decide +kernel)) ggX12_riverLineHere_X12_areInchesHere
set_option maxRecDepth 20000 in
theorem ggX12_riverLineHere_X12_isFloodHere : GoodIn wsX12_riverLineHere wsX12_isFloodHere := goodIn_r _ [71, 72, 73, 27, 28, 29, 30, 10, 31, 32, 33, 34, 35, 36, 12, 19, 20, 21, 22, 18, 13, 37, 38, 39, 40, 14, 15, 16, 17, 41, 42, 43, 44, 45, 46, 47, 74, 75, 76, 77, 78, 79, 80, 81, 82, 83, 84, 85, 86, 87, 88, 89, 90, 91, 92, 93, 94, 95, 96, 97, 98, 99, 100, 101, 102, 103, 104, 105, 106, 107, 108, 109, 110, 111, 112, 113, 114, 115] rfl (by decide +kernel)
set_option maxRecDepth 20000 in
theorem gX12_riverLineHere_X12_isFloodHere : GoodIn wsX12_riverLineHere (wsV RX12 262 RX12 yX12_isFloodHere wsX12_isFloodHere) := goodIn_app (goodIn_of _ (by decide +kernel)) ggX12_riverLineHere_X12_isFloodHere
theorem dX12_riverLineHere_0 : decode cX12_riverLineHere 0 = .ok (.aload_n 0, 1) := by decide +kernel
theorem dX12_riverLineHere_1 : decode cX12_riverLineHere 1 = .ok (.ldc2_w 237, 3) := by decide +kernel
theorem dX12_riverLineHere_4 : decode cX12_riverLineHere 4 = .ok (.invokevirtual 114, 3) := by decide +kernel
theorem dX12_riverLineHere_7 : decode cX12_riverLineHere 7 = .ok (.ifCond .eq 9, 3) := by decide +kernel
theorem dX12_riverLineHere_10 : decode cX12_riverLineHere 10 = .ok (.aload_n 0, 1) := by decide +kernel
theorem dX12_riverLineHere_11 : decode cX12_riverLineHere 11 = .ok (.iload_n 1, 1) := by decide +kernel
theorem dX12_riverLineHere_12 : decode cX12_riverLineHere 12 = .ok (.invokevirtual 239, 3) := by decide +kernel
theorem dX12_riverLineHere_15 : decode cX12_riverLineHere 15 = .ok (.ireturn, 1) := by decide +kernel
theorem dX12_riverLineHere_16 : decode cX12_riverLineHere 16 = .ok (.aload_n 0, 1) := by decide +kernel
theorem dX12_riverLineHere_17 : decode cX12_riverLineHere 17 = .ok (.getfield 225, 3) := by decide +kernel
theorem dX12_riverLineHere_20 : decode cX12_riverLineHere 20 = .ok (.ifCond .ne 10, 3) := by decide +kernel
theorem dX12_riverLineHere_23 : decode cX12_riverLineHere 23 = .ok (.aload_n 0, 1) := by decide +kernel
theorem dX12_riverLineHere_24 : decode cX12_riverLineHere 24 = .ok (.iconst 4, 1) := by decide +kernel
theorem dX12_riverLineHere_25 : decode cX12_riverLineHere 25 = .ok (.iload_n 1, 1) := by decide +kernel
theorem dX12_riverLineHere_26 : decode cX12_riverLineHere 26 = .ok (.invokevirtual 124, 3) := by decide +kernel
theorem dX12_riverLineHere_29 : decode cX12_riverLineHere 29 = .ok (.ireturn, 1) := by decide +kernel
theorem dX12_riverLineHere_30 : decode cX12_riverLineHere 30 = .ok (.aload_n 0, 1) := by decide +kernel
theorem dX12_riverLineHere_31 : decode cX12_riverLineHere 31 = .ok (.ldc2_w 242, 3) := by decide +kernel
theorem dX12_riverLineHere_34 : decode cX12_riverLineHere 34 = .ok (.invokevirtual 114, 3) := by decide +kernel
theorem dX12_riverLineHere_37 : decode cX12_riverLineHere 37 = .ok (.ifCond .eq 8, 3) := by decide +kernel
theorem dX12_riverLineHere_40 : decode cX12_riverLineHere 40 = .ok (.aload_n 0, 1) := by decide +kernel
theorem dX12_riverLineHere_41 : decode cX12_riverLineHere 41 = .ok (.invokevirtual 244, 3) := by decide +kernel
theorem dX12_riverLineHere_44 : decode cX12_riverLineHere 44 = .ok (.ireturn, 1) := by decide +kernel
theorem dX12_riverLineHere_45 : decode cX12_riverLineHere 45 = .ok (.aload_n 0, 1) := by decide +kernel
theorem dX12_riverLineHere_46 : decode cX12_riverLineHere 46 = .ok (.ldc2_w 247, 3) := by decide +kernel
theorem dX12_riverLineHere_49 : decode cX12_riverLineHere 49 = .ok (.invokevirtual 114, 3) := by decide +kernel
theorem dX12_riverLineHere_52 : decode cX12_riverLineHere 52 = .ok (.ifCond .eq 8, 3) := by decide +kernel
theorem dX12_riverLineHere_55 : decode cX12_riverLineHere 55 = .ok (.aload_n 0, 1) := by decide +kernel
theorem dX12_riverLineHere_56 : decode cX12_riverLineHere 56 = .ok (.invokevirtual 249, 3) := by decide +kernel
theorem dX12_riverLineHere_59 : decode cX12_riverLineHere 59 = .ok (.ireturn, 1) := by decide +kernel
theorem dX12_riverLineHere_60 : decode cX12_riverLineHere 60 = .ok (.aload_n 0, 1) := by decide +kernel
theorem dX12_riverLineHere_61 : decode cX12_riverLineHere 61 = .ok (.ldc2_w 252, 3) := by decide +kernel
theorem dX12_riverLineHere_64 : decode cX12_riverLineHere 64 = .ok (.invokevirtual 114, 3) := by decide +kernel
theorem dX12_riverLineHere_67 : decode cX12_riverLineHere 67 = .ok (.ifCond .eq 11, 3) := by decide +kernel
theorem dX12_riverLineHere_70 : decode cX12_riverLineHere 70 = .ok (.aload_n 0, 1) := by decide +kernel
theorem dX12_riverLineHere_71 : decode cX12_riverLineHere 71 = .ok (.iload_n 1, 1) := by decide +kernel
theorem dX12_riverLineHere_72 : decode cX12_riverLineHere 72 = .ok (.invokevirtual 254, 3) := by decide +kernel
theorem dX12_riverLineHere_75 : decode cX12_riverLineHere 75 = .ok (.goto 26, 3) := by decide +kernel
theorem dX12_riverLineHere_78 : decode cX12_riverLineHere 78 = .ok (.aload_n 0, 1) := by decide +kernel
theorem dX12_riverLineHere_79 : decode cX12_riverLineHere 79 = .ok (.ldc2_w 257, 3) := by decide +kernel
theorem dX12_riverLineHere_82 : decode cX12_riverLineHere 82 = .ok (.invokevirtual 114, 3) := by decide +kernel
theorem dX12_riverLineHere_85 : decode cX12_riverLineHere 85 = .ok (.ifCond .eq 11, 3) := by decide +kernel
theorem dX12_riverLineHere_88 : decode cX12_riverLineHere 88 = .ok (.aload_n 0, 1) := by decide +kernel
theorem dX12_riverLineHere_89 : decode cX12_riverLineHere 89 = .ok (.iload_n 1, 1) := by decide +kernel
theorem dX12_riverLineHere_90 : decode cX12_riverLineHere 90 = .ok (.invokevirtual 259, 3) := by decide +kernel
theorem dX12_riverLineHere_93 : decode cX12_riverLineHere 93 = .ok (.goto 8, 3) := by decide +kernel
theorem dX12_riverLineHere_96 : decode cX12_riverLineHere 96 = .ok (.aload_n 0, 1) := by decide +kernel
theorem dX12_riverLineHere_97 : decode cX12_riverLineHere 97 = .ok (.iload_n 1, 1) := by decide +kernel
theorem dX12_riverLineHere_98 : decode cX12_riverLineHere 98 = .ok (.invokevirtual 262, 3) := by decide +kernel
theorem dX12_riverLineHere_101 : decode cX12_riverLineHere 101 = .ok (.ireturn, 1) := by decide +kernel
set_option maxRecDepth 20000 in
theorem ggX12_isRiverWord_X12_isWord : GoodIn wsX12_isRiverWord wsX12_isWord := goodIn_r _ [11, 12, 13, 14, 15, 16, 10, 17, 18, 19, 20, 21, 22, 23, 24, 25, 26, 27, 28, 29, 30, 31, 32, 33, 34, 35, 36, 37, 38, 39, 40, 41, 42, 43, 44, 45, 46, 47, 48, 49, 50, 51, 52, 53, 54, 55, 56, 57, 58, 59, 60, 61, 62, 63, 64] rfl (by decide +kernel)
set_option maxRecDepth 20000 in
theorem gX12_isRiverWord_X12_isWord : GoodIn wsX12_isRiverWord (wsV RX12 114 RX12 yX12_isWord wsX12_isWord) := goodIn_app (goodIn_of _ (by decide +kernel)) ggX12_isRiverWord_X12_isWord
theorem dX12_isRiverWord_0 : decode cX12_isRiverWord 0 = .ok (.aload_n 0, 1) := by decide +kernel
theorem dX12_isRiverWord_1 : decode cX12_isRiverWord 1 = .ok (.ldc2_w 237, 3) := by decide +kernel
theorem dX12_isRiverWord_4 : decode cX12_isRiverWord 4 = .ok (.invokevirtual 114, 3) := by decide +kernel
theorem dX12_isRiverWord_7 : decode cX12_isRiverWord 7 = .ok (.ifCond .ne 53, 3) := by decide +kernel
theorem dX12_isRiverWord_10 : decode cX12_isRiverWord 10 = .ok (.aload_n 0, 1) := by decide +kernel
theorem dX12_isRiverWord_11 : decode cX12_isRiverWord 11 = .ok (.ldc2_w 242, 3) := by decide +kernel
theorem dX12_isRiverWord_14 : decode cX12_isRiverWord 14 = .ok (.invokevirtual 114, 3) := by decide +kernel
theorem dX12_isRiverWord_17 : decode cX12_isRiverWord 17 = .ok (.ifCond .ne 43, 3) := by decide +kernel
theorem dX12_isRiverWord_20 : decode cX12_isRiverWord 20 = .ok (.aload_n 0, 1) := by decide +kernel
theorem dX12_isRiverWord_21 : decode cX12_isRiverWord 21 = .ok (.ldc2_w 247, 3) := by decide +kernel
theorem dX12_isRiverWord_24 : decode cX12_isRiverWord 24 = .ok (.invokevirtual 114, 3) := by decide +kernel
theorem dX12_isRiverWord_27 : decode cX12_isRiverWord 27 = .ok (.ifCond .ne 33, 3) := by decide +kernel
theorem dX12_isRiverWord_30 : decode cX12_isRiverWord 30 = .ok (.aload_n 0, 1) := by decide +kernel
theorem dX12_isRiverWord_31 : decode cX12_isRiverWord 31 = .ok (.ldc2_w 252, 3) := by decide +kernel
theorem dX12_isRiverWord_34 : decode cX12_isRiverWord 34 = .ok (.invokevirtual 114, 3) := by decide +kernel
theorem dX12_isRiverWord_37 : decode cX12_isRiverWord 37 = .ok (.ifCond .ne 23, 3) := by decide +kernel
theorem dX12_isRiverWord_40 : decode cX12_isRiverWord 40 = .ok (.aload_n 0, 1) := by decide +kernel
theorem dX12_isRiverWord_41 : decode cX12_isRiverWord 41 = .ok (.ldc2_w 257, 3) := by decide +kernel
theorem dX12_isRiverWord_44 : decode cX12_isRiverWord 44 = .ok (.invokevirtual 114, 3) := by decide +kernel
theorem dX12_isRiverWord_47 : decode cX12_isRiverWord 47 = .ok (.ifCond .ne 13, 3) := by decide +kernel
theorem dX12_isRiverWord_50 : decode cX12_isRiverWord 50 = .ok (.aload_n 0, 1) := by decide +kernel
theorem dX12_isRiverWord_51 : decode cX12_isRiverWord 51 = .ok (.ldc2_w 265, 3) := by decide +kernel
theorem dX12_isRiverWord_54 : decode cX12_isRiverWord 54 = .ok (.invokevirtual 114, 3) := by decide +kernel
theorem dX12_isRiverWord_57 : decode cX12_isRiverWord 57 = .ok (.ifCond .eq 7, 3) := by decide +kernel
theorem dX12_isRiverWord_60 : decode cX12_isRiverWord 60 = .ok (.iconst 1, 1) := by decide +kernel
theorem dX12_isRiverWord_61 : decode cX12_isRiverWord 61 = .ok (.goto 4, 3) := by decide +kernel
theorem dX12_isRiverWord_64 : decode cX12_isRiverWord 64 = .ok (.iconst 0, 1) := by decide +kernel
theorem dX12_isRiverWord_65 : decode cX12_isRiverWord 65 = .ok (.ireturn, 1) := by decide +kernel
set_option maxRecDepth 20000 in
theorem ggX12_doingSort_X12_isWord : GoodIn wsX12_doingSort wsX12_isWord := goodIn_r _ [9, 10, 11, 12, 13, 14, 8, 15, 16, 17, 18, 19, 20, 21, 22, 23, 24, 25, 26, 27, 28, 29, 30, 31, 32, 33, 34, 35, 36, 37, 38, 39, 40, 41, 42, 43, 44, 45, 46, 47, 48, 49, 50, 51, 52, 53, 54, 55, 56, 57, 58, 59, 60, 61, 62] rfl (by decide +kernel)
set_option maxRecDepth 20000 in
theorem gX12_doingSort_X12_isWord : GoodIn wsX12_doingSort (wsV RX12 114 RX12 yX12_isWord wsX12_isWord) := goodIn_app (goodIn_of _ (by decide +kernel)) ggX12_doingSort_X12_isWord
theorem dX12_doingSort_0 : decode cX12_doingSort 0 = .ok (.aload_n 0, 1) := by decide +kernel
theorem dX12_doingSort_1 : decode cX12_doingSort 1 = .ok (.ldc2_w 267, 3) := by decide +kernel
theorem dX12_doingSort_4 : decode cX12_doingSort 4 = .ok (.invokevirtual 114, 3) := by decide +kernel
theorem dX12_doingSort_7 : decode cX12_doingSort 7 = .ok (.ifCond .eq 7, 3) := by decide +kernel
theorem dX12_doingSort_10 : decode cX12_doingSort 10 = .ok (.iconst 0, 1) := by decide +kernel
theorem dX12_doingSort_11 : decode cX12_doingSort 11 = .ok (.goto 46, 3) := by decide +kernel
theorem dX12_doingSort_14 : decode cX12_doingSort 14 = .ok (.aload_n 0, 1) := by decide +kernel
theorem dX12_doingSort_15 : decode cX12_doingSort 15 = .ok (.ldc2_w 269, 3) := by decide +kernel
theorem dX12_doingSort_18 : decode cX12_doingSort 18 = .ok (.invokevirtual 114, 3) := by decide +kernel
theorem dX12_doingSort_21 : decode cX12_doingSort 21 = .ok (.ifCond .eq 7, 3) := by decide +kernel
theorem dX12_doingSort_24 : decode cX12_doingSort 24 = .ok (.iconst 1, 1) := by decide +kernel
theorem dX12_doingSort_25 : decode cX12_doingSort 25 = .ok (.goto 32, 3) := by decide +kernel
theorem dX12_doingSort_28 : decode cX12_doingSort 28 = .ok (.aload_n 0, 1) := by decide +kernel
theorem dX12_doingSort_29 : decode cX12_doingSort 29 = .ok (.ldc2_w 271, 3) := by decide +kernel
theorem dX12_doingSort_32 : decode cX12_doingSort 32 = .ok (.invokevirtual 114, 3) := by decide +kernel
theorem dX12_doingSort_35 : decode cX12_doingSort 35 = .ok (.ifCond .eq 7, 3) := by decide +kernel
theorem dX12_doingSort_38 : decode cX12_doingSort 38 = .ok (.iconst 2, 1) := by decide +kernel
theorem dX12_doingSort_39 : decode cX12_doingSort 39 = .ok (.goto 18, 3) := by decide +kernel
theorem dX12_doingSort_42 : decode cX12_doingSort 42 = .ok (.aload_n 0, 1) := by decide +kernel
theorem dX12_doingSort_43 : decode cX12_doingSort 43 = .ok (.ldc2_w 273, 3) := by decide +kernel
theorem dX12_doingSort_46 : decode cX12_doingSort 46 = .ok (.invokevirtual 114, 3) := by decide +kernel
theorem dX12_doingSort_49 : decode cX12_doingSort 49 = .ok (.ifCond .eq 7, 3) := by decide +kernel
theorem dX12_doingSort_52 : decode cX12_doingSort 52 = .ok (.iconst 3, 1) := by decide +kernel
theorem dX12_doingSort_53 : decode cX12_doingSort 53 = .ok (.goto 4, 3) := by decide +kernel
theorem dX12_doingSort_56 : decode cX12_doingSort 56 = .ok (.iconst (-1), 1) := by decide +kernel
theorem dX12_doingSort_57 : decode cX12_doingSort 57 = .ok (.ireturn, 1) := by decide +kernel
set_option maxRecDepth 20000 in
theorem ggX12_clauseHere_X12_see : GoodIn wsX12_clauseHere wsX12_see := goodIn_r _ [8, 1, 9, 10, 178, 179, 180, 181, 182, 183, 184, 185, 186, 187, 188, 189, 190, 191, 192, 193, 194, 195, 196, 197, 198, 199, 200, 201, 202, 203, 204, 205, 206, 207, 208, 209, 210, 211, 212, 213, 214, 215, 216, 217, 218, 219] rfl (by decide +kernel)
set_option maxRecDepth 20000 in
theorem gX12_clauseHere_X12_see : GoodIn wsX12_clauseHere (wsV RX12 106 RX12 yX12_see wsX12_see) := goodIn_app (goodIn_of _ (by decide +kernel)) ggX12_clauseHere_X12_see
set_option maxRecDepth 20000 in
theorem ggX12_clauseHere_X12_isRiverWord : GoodIn wsX12_clauseHere wsX12_isRiverWord := goodIn_r _ [14, 15, 16, 17, 18, 19, 20, 21, 22, 23, 7, 24, 1, 10, 4, 5, 6, 8, 9, 25, 26, 27, 28, 178, 179, 180, 181, 182, 183, 184, 185, 186, 187, 188, 189, 190, 191, 192, 193, 194, 195, 196, 197, 198, 199, 200, 201, 202, 203, 204, 205, 206, 207, 208, 209, 210, 211, 212, 213, 214, 215, 216, 217, 218, 219] rfl (by decide +kernel)
set_option maxRecDepth 20000 in
theorem gX12_clauseHere_X12_isRiverWord : GoodIn wsX12_clauseHere (wsV RX12 275 RX12 yX12_isRiverWord wsX12_isRiverWord) := goodIn_app (goodIn_of _ (by decide +kernel)) ggX12_clauseHere_X12_isRiverWord
set_option maxRecDepth 20000 in
theorem ggX12_clauseHere_X12_doingSort : GoodIn wsX12_clauseHere wsX12_doingSort := goodIn_r _ [32, 33, 34, 35, 36, 21, 22, 23, 7, 24, 1, 10, 4, 5, 6, 8, 9, 25, 26, 27, 28, 178, 179, 180, 181, 182, 183, 184, 185, 186, 187, 188, 189, 190, 191, 192, 193, 194, 195, 196, 197, 198, 199, 200, 201, 202, 203, 204, 205, 206, 207, 208, 209, 210, 211, 212, 213, 214, 215, 216, 217, 218, 219] rfl (by decide +kernel)
set_option maxRecDepth 20000 in
theorem gX12_clauseHere_X12_doingSort : GoodIn wsX12_clauseHere (wsV RX12 278 RX12 yX12_doingSort wsX12_doingSort) := goodIn_app (goodIn_of _ (by decide +kernel)) ggX12_clauseHere_X12_doingSort
set_option maxRecDepth 20000 in
theorem ggX12_clauseHere_X12_fails : GoodIn wsX12_clauseHere wsX12_fails := goodIn_r _ [40, 41, 178, 179, 180, 181, 182, 183, 184, 185, 186, 187, 188, 189, 190, 191, 192, 193, 194, 195, 196, 197, 198, 199, 200, 201, 202, 203, 204, 205, 206, 207, 208, 209, 210, 211, 212, 213, 214, 215, 216, 217, 218, 219] rfl (by decide +kernel)
set_option maxRecDepth 20000 in
theorem gX12_clauseHere_X12_fails : GoodIn wsX12_clauseHere (wsV RX12 124 RX12 yX12_fails wsX12_fails) := goodIn_app (goodIn_of _ (by decide +kernel)) ggX12_clauseHere_X12_fails
set_option maxRecDepth 20000 in
theorem ggX12_clauseHere_X12_riverLineHere : GoodIn wsX12_clauseHere wsX12_riverLineHere := goodIn_r _ [45, 15, 46, 16, 17, 18, 19, 21, 22, 23, 7, 24, 1, 10, 4, 5, 6, 8, 9, 25, 26, 27, 28, 47, 48, 49, 50, 51, 37, 38, 39, 40, 41, 52, 53, 54, 55, 56, 57, 58, 59, 60, 61, 62, 63, 64, 65, 66, 67, 68, 69, 70, 71, 72, 73, 74, 75, 76, 77, 78, 79, 80, 81, 82, 83, 84, 85, 86, 87, 88, 89, 90, 91, 92, 178, 179, 180, 181, 182, 183, 184, 185, 186, 187, 188, 189, 190, 191, 192, 193, 194, 195, 196, 197, 198, 199, 200, 201, 202, 203, 204, 205, 206, 207, 208, 209, 210, 211, 212, 213, 214, 215, 216, 217, 218, 219] rfl (by decide +kernel)
set_option maxRecDepth 20000 in
theorem gX12_clauseHere_X12_riverLineHere : GoodIn wsX12_clauseHere (wsV RX12 284 RX12 yX12_riverLineHere wsX12_riverLineHere) := goodIn_app (goodIn_of _ (by decide +kernel)) ggX12_clauseHere_X12_riverLineHere
set_option maxRecDepth 20000 in
theorem ggX12_clauseHere_X12_isDoingHere : GoodIn wsX12_clauseHere wsX12_isDoingHere := goodIn_r _ [96, 2, 97, 98, 99, 100, 52, 53, 54, 7, 55, 1, 25, 26, 27, 28, 9, 10, 101, 102, 103, 104, 105, 106, 107, 108, 109, 110, 111, 112, 113, 51, 4, 5, 6, 8, 60, 61, 62, 63, 56, 57, 58, 59, 37, 38, 39, 40, 41, 64, 65, 66, 114, 115, 116, 117, 118, 119, 120, 121, 122, 123, 124, 125, 126, 127, 128, 129, 130, 131, 132, 133, 134, 135, 136, 21, 22, 23, 24, 137, 138, 139, 140, 141, 142, 143, 144, 145, 146, 147, 148, 149, 150, 151, 152, 153, 154, 155, 156, 157, 158, 159, 160, 161, 162, 163, 164, 165, 166, 167, 168, 169, 170, 171, 172, 173, 174, 175, 176, 177, 178, 179, 180, 181, 182, 183, 184, 185, 186, 187, 188, 189, 190, 191, 192, 193, 194, 195, 196, 197, 198, 199, 200, 201, 202, 203, 204, 205, 206, 207, 208, 209, 210, 211, 212, 213, 214, 215, 216, 217, 218, 219] rfl (by decide +kernel)
set_option maxRecDepth 20000 in
theorem gX12_clauseHere_X12_isDoingHere : GoodIn wsX12_clauseHere (wsV RX12 287 RX12 yX12_isDoingHere wsX12_isDoingHere) := goodIn_app (goodIn_of _ (by decide +kernel)) ggX12_clauseHere_X12_isDoingHere
theorem dX12_clauseHere_0 : decode cX12_clauseHere 0 = .ok (.aload_n 0, 1) := by decide +kernel
theorem dX12_clauseHere_1 : decode cX12_clauseHere 1 = .ok (.invokevirtual 106, 3) := by decide +kernel
theorem dX12_clauseHere_4 : decode cX12_clauseHere 4 = .ok (.pop, 1) := by decide +kernel
theorem dX12_clauseHere_5 : decode cX12_clauseHere 5 = .ok (.aload_n 0, 1) := by decide +kernel
theorem dX12_clauseHere_6 : decode cX12_clauseHere 6 = .ok (.getfield 103, 3) := by decide +kernel
theorem dX12_clauseHere_9 : decode cX12_clauseHere 9 = .ok (.istore_n 1, 1) := by decide +kernel
theorem dX12_clauseHere_10 : decode cX12_clauseHere 10 = .ok (.aload_n 0, 1) := by decide +kernel
theorem dX12_clauseHere_11 : decode cX12_clauseHere 11 = .ok (.getfield 153, 3) := by decide +kernel
theorem dX12_clauseHere_14 : decode cX12_clauseHere 14 = .ok (.bipush 6, 2) := by decide +kernel
theorem dX12_clauseHere_16 : decode cX12_clauseHere 16 = .ok (.if_icmp .ne 7, 3) := by decide +kernel
theorem dX12_clauseHere_19 : decode cX12_clauseHere 19 = .ok (.iconst 1, 1) := by decide +kernel
theorem dX12_clauseHere_20 : decode cX12_clauseHere 20 = .ok (.goto 4, 3) := by decide +kernel
theorem dX12_clauseHere_23 : decode cX12_clauseHere 23 = .ok (.iconst 0, 1) := by decide +kernel
theorem dX12_clauseHere_24 : decode cX12_clauseHere 24 = .ok (.istore_n 2, 1) := by decide +kernel
theorem dX12_clauseHere_25 : decode cX12_clauseHere 25 = .ok (.iload_n 2, 1) := by decide +kernel
theorem dX12_clauseHere_26 : decode cX12_clauseHere 26 = .ok (.ifCond .eq 13, 3) := by decide +kernel
theorem dX12_clauseHere_29 : decode cX12_clauseHere 29 = .ok (.aload_n 0, 1) := by decide +kernel
theorem dX12_clauseHere_30 : decode cX12_clauseHere 30 = .ok (.invokevirtual 275, 3) := by decide +kernel
theorem dX12_clauseHere_33 : decode cX12_clauseHere 33 = .ok (.ifCond .eq 13, 3) := by decide +kernel
theorem dX12_clauseHere_36 : decode cX12_clauseHere 36 = .ok (.goto 17, 3) := by decide +kernel
theorem dX12_clauseHere_39 : decode cX12_clauseHere 39 = .ok (.aload_n 0, 1) := by decide +kernel
theorem dX12_clauseHere_40 : decode cX12_clauseHere 40 = .ok (.invokevirtual 278, 3) := by decide +kernel
theorem dX12_clauseHere_43 : decode cX12_clauseHere 43 = .ok (.ifCond .ge 10, 3) := by decide +kernel
theorem dX12_clauseHere_46 : decode cX12_clauseHere 46 = .ok (.aload_n 0, 1) := by decide +kernel
theorem dX12_clauseHere_47 : decode cX12_clauseHere 47 = .ok (.iconst 0, 1) := by decide +kernel
theorem dX12_clauseHere_48 : decode cX12_clauseHere 48 = .ok (.iload_n 1, 1) := by decide +kernel
theorem dX12_clauseHere_49 : decode cX12_clauseHere 49 = .ok (.invokevirtual 124, 3) := by decide +kernel
theorem dX12_clauseHere_52 : decode cX12_clauseHere 52 = .ok (.ireturn, 1) := by decide +kernel
theorem dX12_clauseHere_53 : decode cX12_clauseHere 53 = .ok (.aload_n 0, 1) := by decide +kernel
theorem dX12_clauseHere_54 : decode cX12_clauseHere 54 = .ok (.getfield 281, 3) := by decide +kernel
theorem dX12_clauseHere_57 : decode cX12_clauseHere 57 = .ok (.iload_n 2, 1) := by decide +kernel
theorem dX12_clauseHere_58 : decode cX12_clauseHere 58 = .ok (.ifCond .eq 8, 3) := by decide +kernel
theorem dX12_clauseHere_61 : decode cX12_clauseHere 61 = .ok (.bipush 24, 2) := by decide +kernel
theorem dX12_clauseHere_63 : decode cX12_clauseHere 63 = .ok (.goto 5, 3) := by decide +kernel
theorem dX12_clauseHere_66 : decode cX12_clauseHere 66 = .ok (.bipush 12, 2) := by decide +kernel
theorem dX12_clauseHere_68 : decode cX12_clauseHere 68 = .ok (.if_icmp .ne 10, 3) := by decide +kernel
theorem dX12_clauseHere_71 : decode cX12_clauseHere 71 = .ok (.aload_n 0, 1) := by decide +kernel
theorem dX12_clauseHere_72 : decode cX12_clauseHere 72 = .ok (.iconst 4, 1) := by decide +kernel
theorem dX12_clauseHere_73 : decode cX12_clauseHere 73 = .ok (.iload_n 1, 1) := by decide +kernel
theorem dX12_clauseHere_74 : decode cX12_clauseHere 74 = .ok (.invokevirtual 124, 3) := by decide +kernel
theorem dX12_clauseHere_77 : decode cX12_clauseHere 77 = .ok (.ireturn, 1) := by decide +kernel
theorem dX12_clauseHere_78 : decode cX12_clauseHere 78 = .ok (.aload_n 0, 1) := by decide +kernel
theorem dX12_clauseHere_79 : decode cX12_clauseHere 79 = .ok (.dup, 1) := by decide +kernel
theorem dX12_clauseHere_80 : decode cX12_clauseHere 80 = .ok (.getfield 281, 3) := by decide +kernel
theorem dX12_clauseHere_83 : decode cX12_clauseHere 83 = .ok (.iconst 1, 1) := by decide +kernel
theorem dX12_clauseHere_84 : decode cX12_clauseHere 84 = .ok (.iadd, 1) := by decide +kernel
theorem dX12_clauseHere_85 : decode cX12_clauseHere 85 = .ok (.putfield 281, 3) := by decide +kernel
theorem dX12_clauseHere_88 : decode cX12_clauseHere 88 = .ok (.iload_n 2, 1) := by decide +kernel
theorem dX12_clauseHere_89 : decode cX12_clauseHere 89 = .ok (.ifCond .eq 11, 3) := by decide +kernel
theorem dX12_clauseHere_92 : decode cX12_clauseHere 92 = .ok (.aload_n 0, 1) := by decide +kernel
theorem dX12_clauseHere_93 : decode cX12_clauseHere 93 = .ok (.iload_n 1, 1) := by decide +kernel
theorem dX12_clauseHere_94 : decode cX12_clauseHere 94 = .ok (.invokevirtual 284, 3) := by decide +kernel
theorem dX12_clauseHere_97 : decode cX12_clauseHere 97 = .ok (.goto 11, 3) := by decide +kernel
theorem dX12_clauseHere_100 : decode cX12_clauseHere 100 = .ok (.aload_n 0, 1) := by decide +kernel
theorem dX12_clauseHere_101 : decode cX12_clauseHere 101 = .ok (.aload_n 0, 1) := by decide +kernel
theorem dX12_clauseHere_102 : decode cX12_clauseHere 102 = .ok (.invokevirtual 278, 3) := by decide +kernel
theorem dX12_clauseHere_105 : decode cX12_clauseHere 105 = .ok (.invokevirtual 287, 3) := by decide +kernel
theorem dX12_clauseHere_108 : decode cX12_clauseHere 108 = .ok (.ireturn, 1) := by decide +kernel
set_option maxRecDepth 20000 in
theorem ggX12_readsAll_X12_clauseHere : GoodIn wsX12_readsAll wsX12_clauseHere := goodIn_r _ [12, 4, 2, 3, 13, 14, 15, 11, 16, 7, 17, 18, 19, 20, 21, 22, 23, 24, 25, 26, 27, 28, 29, 30, 31, 32, 33, 34, 35, 36, 37, 38, 39, 40, 41, 42, 43, 44, 45, 46, 47, 5, 48, 49, 50, 51, 52, 53, 54, 55, 56, 57, 58, 59, 60, 61, 62, 63, 64, 65, 66, 67, 68, 69, 70, 71, 72, 73, 74, 75, 76, 77, 78, 79, 80, 81, 82, 83, 84, 85, 86, 87, 88, 89, 90, 91, 92, 93, 94, 95, 96, 97, 98, 99, 100, 101, 102, 103, 104, 1, 105, 106, 107, 108, 109, 110, 111, 112, 113, 114, 115, 116, 117, 118, 119, 120, 121, 122, 6, 123, 124, 125, 126, 127, 128, 129, 130, 131, 132, 133, 134, 135, 136, 137, 138, 139, 140, 141, 142, 143, 144, 145, 146, 147, 148, 149, 150, 151, 152, 153, 154, 155, 156, 157, 158, 159, 160, 161, 162, 163, 164, 165, 166, 167, 168, 169, 170, 171, 172, 173, 174, 175, 176, 177, 178, 179, 180, 181, 182, 183, 184, 185, 186, 187, 188, 189, 190, 191, 192, 193, 194, 195, 196, 197, 198, 199, 200, 201, 202, 203, 204, 205, 206, 207, 208, 209, 210, 211, 212, 213, 214, 215, 216, 217, 218, 219, 220, 221, 222, 223] rfl (by decide +kernel)
set_option maxRecDepth 20000 in
theorem gX12_readsAll_X12_clauseHere : GoodIn wsX12_readsAll (wsV RX12 290 RX12 yX12_clauseHere wsX12_clauseHere) := goodIn_app (goodIn_of _ (by decide +kernel)) ggX12_readsAll_X12_clauseHere
set_option maxRecDepth 20000 in
theorem ggX12_readsAll_X12_see : GoodIn wsX12_readsAll wsX12_see := goodIn_r _ [16, 4, 7, 17, 182, 183, 184, 185, 186, 187, 188, 189, 190, 191, 192, 193, 194, 195, 196, 197, 198, 199, 200, 201, 202, 203, 204, 205, 206, 207, 208, 209, 210, 211, 212, 213, 214, 215, 216, 217, 218, 219, 220, 221, 222, 223] rfl (by decide +kernel)
set_option maxRecDepth 20000 in
theorem gX12_readsAll_X12_see : GoodIn wsX12_readsAll (wsV RX12 106 RX12 yX12_see wsX12_see) := goodIn_app (goodIn_of _ (by decide +kernel)) ggX12_readsAll_X12_see
set_option maxRecDepth 20000 in
theorem ggX12_readsAll_X12_fails : GoodIn wsX12_readsAll wsX12_fails := goodIn_r _ [47, 5, 182, 183, 184, 185, 186, 187, 188, 189, 190, 191, 192, 193, 194, 195, 196, 197, 198, 199, 200, 201, 202, 203, 204, 205, 206, 207, 208, 209, 210, 211, 212, 213, 214, 215, 216, 217, 218, 219, 220, 221, 222, 223] rfl (by decide +kernel)
set_option maxRecDepth 20000 in
theorem gX12_readsAll_X12_fails : GoodIn wsX12_readsAll (wsV RX12 124 RX12 yX12_fails wsX12_fails) := goodIn_app (goodIn_of _ (by decide +kernel)) ggX12_readsAll_X12_fails
theorem dX12_readsAll_0 : decode cX12_readsAll 0 = .ok (.aload_n 0, 1) := by decide +kernel
theorem dX12_readsAll_1 : decode cX12_readsAll 1 = .ok (.getfield 17, 3) := by decide +kernel
theorem dX12_readsAll_4 : decode cX12_readsAll 4 = .ok (.aload_n 0, 1) := by decide +kernel
theorem dX12_readsAll_5 : decode cX12_readsAll 5 = .ok (.getfield 153, 3) := by decide +kernel
theorem dX12_readsAll_8 : decode cX12_readsAll 8 = .ok (.iconst 0, 1) := by decide +kernel
theorem dX12_readsAll_9 : decode cX12_readsAll 9 = .ok (.iastore, 1) := by decide +kernel
theorem dX12_readsAll_10 : decode cX12_readsAll 10 = .ok (.aload_n 0, 1) := by decide +kernel
theorem dX12_readsAll_11 : decode cX12_readsAll 11 = .ok (.iconst 0, 1) := by decide +kernel
theorem dX12_readsAll_12 : decode cX12_readsAll 12 = .ok (.putfield 281, 3) := by decide +kernel
theorem dX12_readsAll_15 : decode cX12_readsAll 15 = .ok (.aload_n 0, 1) := by decide +kernel
theorem dX12_readsAll_16 : decode cX12_readsAll 16 = .ok (.iconst 0, 1) := by decide +kernel
theorem dX12_readsAll_17 : decode cX12_readsAll 17 = .ok (.putfield 103, 3) := by decide +kernel
theorem dX12_readsAll_20 : decode cX12_readsAll 20 = .ok (.aload_n 0, 1) := by decide +kernel
theorem dX12_readsAll_21 : decode cX12_readsAll 21 = .ok (.iconst 0, 1) := by decide +kernel
theorem dX12_readsAll_22 : decode cX12_readsAll 22 = .ok (.putfield 100, 3) := by decide +kernel
theorem dX12_readsAll_25 : decode cX12_readsAll 25 = .ok (.aload_n 0, 1) := by decide +kernel
theorem dX12_readsAll_26 : decode cX12_readsAll 26 = .ok (.iconst 0, 1) := by decide +kernel
theorem dX12_readsAll_27 : decode cX12_readsAll 27 = .ok (.putfield 156, 3) := by decide +kernel
theorem dX12_readsAll_30 : decode cX12_readsAll 30 = .ok (.aload_n 0, 1) := by decide +kernel
theorem dX12_readsAll_31 : decode cX12_readsAll 31 = .ok (.invokevirtual 290, 3) := by decide +kernel
theorem dX12_readsAll_34 : decode cX12_readsAll 34 = .ok (.istore_n 1, 1) := by decide +kernel
theorem dX12_readsAll_35 : decode cX12_readsAll 35 = .ok (.iload_n 1, 1) := by decide +kernel
theorem dX12_readsAll_36 : decode cX12_readsAll 36 = .ok (.ifCond .eq 30, 3) := by decide +kernel
theorem dX12_readsAll_39 : decode cX12_readsAll 39 = .ok (.aload_n 0, 1) := by decide +kernel
theorem dX12_readsAll_40 : decode cX12_readsAll 40 = .ok (.invokevirtual 106, 3) := by decide +kernel
theorem dX12_readsAll_43 : decode cX12_readsAll 43 = .ok (.bipush 59, 2) := by decide +kernel
theorem dX12_readsAll_45 : decode cX12_readsAll 45 = .ok (.if_icmp .ne 21, 3) := by decide +kernel
theorem dX12_readsAll_48 : decode cX12_readsAll 48 = .ok (.aload_n 0, 1) := by decide +kernel
theorem dX12_readsAll_49 : decode cX12_readsAll 49 = .ok (.dup, 1) := by decide +kernel
theorem dX12_readsAll_50 : decode cX12_readsAll 50 = .ok (.getfield 103, 3) := by decide +kernel
theorem dX12_readsAll_53 : decode cX12_readsAll 53 = .ok (.iconst 1, 1) := by decide +kernel
theorem dX12_readsAll_54 : decode cX12_readsAll 54 = .ok (.iadd, 1) := by decide +kernel
theorem dX12_readsAll_55 : decode cX12_readsAll 55 = .ok (.putfield 103, 3) := by decide +kernel
theorem dX12_readsAll_58 : decode cX12_readsAll 58 = .ok (.aload_n 0, 1) := by decide +kernel
theorem dX12_readsAll_59 : decode cX12_readsAll 59 = .ok (.invokevirtual 290, 3) := by decide +kernel
theorem dX12_readsAll_62 : decode cX12_readsAll 62 = .ok (.istore_n 1, 1) := by decide +kernel
theorem dX12_readsAll_63 : decode cX12_readsAll 63 = .ok (.goto (-28), 3) := by decide +kernel
theorem dX12_readsAll_66 : decode cX12_readsAll 66 = .ok (.iload_n 1, 1) := by decide +kernel
theorem dX12_readsAll_67 : decode cX12_readsAll 67 = .ok (.ifCond .eq 21, 3) := by decide +kernel
theorem dX12_readsAll_70 : decode cX12_readsAll 70 = .ok (.aload_n 0, 1) := by decide +kernel
theorem dX12_readsAll_71 : decode cX12_readsAll 71 = .ok (.invokevirtual 106, 3) := by decide +kernel
theorem dX12_readsAll_74 : decode cX12_readsAll 74 = .ok (.iconst (-1), 1) := by decide +kernel
theorem dX12_readsAll_75 : decode cX12_readsAll 75 = .ok (.if_icmp .eq 13, 3) := by decide +kernel
theorem dX12_readsAll_78 : decode cX12_readsAll 78 = .ok (.aload_n 0, 1) := by decide +kernel
theorem dX12_readsAll_79 : decode cX12_readsAll 79 = .ok (.iconst 0, 1) := by decide +kernel
theorem dX12_readsAll_80 : decode cX12_readsAll 80 = .ok (.aload_n 0, 1) := by decide +kernel
theorem dX12_readsAll_81 : decode cX12_readsAll 81 = .ok (.getfield 103, 3) := by decide +kernel
theorem dX12_readsAll_84 : decode cX12_readsAll 84 = .ok (.invokevirtual 124, 3) := by decide +kernel
theorem dX12_readsAll_87 : decode cX12_readsAll 87 = .ok (.pop, 1) := by decide +kernel
theorem dX12_readsAll_88 : decode cX12_readsAll 88 = .ok (.aload_n 0, 1) := by decide +kernel
theorem dX12_readsAll_89 : decode cX12_readsAll 89 = .ok (.iconst 0, 1) := by decide +kernel
theorem dX12_readsAll_90 : decode cX12_readsAll 90 = .ok (.putfield 92, 3) := by decide +kernel
theorem dX12_readsAll_93 : decode cX12_readsAll 93 = .ok (.aload_n 0, 1) := by decide +kernel
theorem dX12_readsAll_94 : decode cX12_readsAll 94 = .ok (.getfield 100, 3) := by decide +kernel
theorem dX12_readsAll_97 : decode cX12_readsAll 97 = .ok (.ifCond .ne 7, 3) := by decide +kernel
theorem dX12_readsAll_100 : decode cX12_readsAll 100 = .ok (.iconst 1, 1) := by decide +kernel
theorem dX12_readsAll_101 : decode cX12_readsAll 101 = .ok (.goto 4, 3) := by decide +kernel
theorem dX12_readsAll_104 : decode cX12_readsAll 104 = .ok (.iconst 0, 1) := by decide +kernel
theorem dX12_readsAll_105 : decode cX12_readsAll 105 = .ok (.ireturn, 1) := by decide +kernel
set_option maxRecDepth 20000 in
theorem ggX12_rule_X12_readsAll : GoodIn wsX12_rule wsX12_readsAll := goodIn_r _ [9, 10, 2, 11, 12, 4, 13, 14, 15, 16, 17, 8, 18, 19, 20, 21, 22, 23, 24, 25, 26, 27, 28, 29, 30, 31, 32, 33, 34, 35, 36, 37, 38, 39, 40, 41, 42, 43, 44, 45, 46, 47, 48, 49, 50, 51, 52, 53, 54, 55, 56, 57, 58, 59, 60, 61, 62, 63, 64, 65, 66, 67, 68, 69, 70, 71, 72, 73, 74, 75, 76, 77, 78, 79, 80, 81, 82, 83, 84, 85, 86, 87, 88, 89, 90, 91, 92, 93, 94, 95, 96, 97, 98, 99, 100, 101, 102, 103, 104, 105, 106, 107, 108, 3, 109, 110, 111, 112, 113, 114, 115, 116, 117, 118, 119, 120, 121, 122, 123, 124, 125, 126, 127, 128, 129, 130, 131, 132, 133, 134, 135, 136, 137, 138, 139, 140, 141, 142, 143, 144, 145, 146, 147, 148, 149, 150, 151, 152, 153, 154, 155, 156, 157, 158, 159, 160, 161, 162, 163, 164, 165, 166, 167, 168, 169, 170, 171, 172, 173, 174, 175, 176, 177, 178, 179, 180, 181, 182, 183, 184, 185, 186, 187, 188, 189, 190, 191, 192, 193, 194, 195, 196, 197, 198, 199, 200, 201, 202, 203, 204, 205, 206, 207, 208, 209, 210, 211, 212, 213, 214, 215, 216, 217, 218, 219, 220, 221, 222, 223, 224, 225, 226, 227, 228] rfl (by decide +kernel)
set_option maxRecDepth 20000 in
theorem gX12_rule_X12_readsAll : GoodIn wsX12_rule (wsV RX12 296 RX12 yX12_readsAll wsX12_readsAll) := goodIn_app (goodIn_of _ (by decide +kernel)) ggX12_rule_X12_readsAll
theorem dX12_rule_0 : decode cX12_rule 0 = .ok (.aload_n 0, 1) := by decide +kernel
theorem dX12_rule_1 : decode cX12_rule 1 = .ok (.getfield 293, 3) := by decide +kernel
theorem dX12_rule_4 : decode cX12_rule 4 = .ok (.bipush 6, 2) := by decide +kernel
theorem dX12_rule_6 : decode cX12_rule 6 = .ok (.if_icmp .ne 5, 3) := by decide +kernel
theorem dX12_rule_9 : decode cX12_rule 9 = .ok (.iconst (-1), 1) := by decide +kernel
theorem dX12_rule_10 : decode cX12_rule 10 = .ok (.ireturn, 1) := by decide +kernel
theorem dX12_rule_11 : decode cX12_rule 11 = .ok (.aload_n 0, 1) := by decide +kernel
theorem dX12_rule_12 : decode cX12_rule 12 = .ok (.aload_n 0, 1) := by decide +kernel
theorem dX12_rule_13 : decode cX12_rule 13 = .ok (.getfield 293, 3) := by decide +kernel
theorem dX12_rule_16 : decode cX12_rule 16 = .ok (.putfield 153, 3) := by decide +kernel
theorem dX12_rule_19 : decode cX12_rule 19 = .ok (.aload_n 0, 1) := by decide +kernel
theorem dX12_rule_20 : decode cX12_rule 20 = .ok (.getfield 23, 3) := by decide +kernel
theorem dX12_rule_23 : decode cX12_rule 23 = .ok (.aload_n 0, 1) := by decide +kernel
theorem dX12_rule_24 : decode cX12_rule 24 = .ok (.getfield 153, 3) := by decide +kernel
theorem dX12_rule_27 : decode cX12_rule 27 = .ok (.iconst 0, 1) := by decide +kernel
theorem dX12_rule_28 : decode cX12_rule 28 = .ok (.iastore, 1) := by decide +kernel
theorem dX12_rule_29 : decode cX12_rule 29 = .ok (.aload_n 0, 1) := by decide +kernel
theorem dX12_rule_30 : decode cX12_rule 30 = .ok (.invokevirtual 296, 3) := by decide +kernel
theorem dX12_rule_33 : decode cX12_rule 33 = .ok (.ifCond .ne 11, 3) := by decide +kernel
theorem dX12_rule_36 : decode cX12_rule 36 = .ok (.bipush (-2), 2) := by decide +kernel
theorem dX12_rule_38 : decode cX12_rule 38 = .ok (.aload_n 0, 1) := by decide +kernel
theorem dX12_rule_39 : decode cX12_rule 39 = .ok (.getfield 100, 3) := by decide +kernel
theorem dX12_rule_42 : decode cX12_rule 42 = .ok (.isub, 1) := by decide +kernel
theorem dX12_rule_43 : decode cX12_rule 43 = .ok (.ireturn, 1) := by decide +kernel
theorem dX12_rule_44 : decode cX12_rule 44 = .ok (.aload_n 0, 1) := by decide +kernel
theorem dX12_rule_45 : decode cX12_rule 45 = .ok (.dup, 1) := by decide +kernel
theorem dX12_rule_46 : decode cX12_rule 46 = .ok (.getfield 293, 3) := by decide +kernel
theorem dX12_rule_49 : decode cX12_rule 49 = .ok (.iconst 1, 1) := by decide +kernel
theorem dX12_rule_50 : decode cX12_rule 50 = .ok (.iadd, 1) := by decide +kernel
theorem dX12_rule_51 : decode cX12_rule 51 = .ok (.putfield 293, 3) := by decide +kernel
theorem dX12_rule_54 : decode cX12_rule 54 = .ok (.aload_n 0, 1) := by decide +kernel
theorem dX12_rule_55 : decode cX12_rule 55 = .ok (.getfield 293, 3) := by decide +kernel
theorem dX12_rule_58 : decode cX12_rule 58 = .ok (.iconst 1, 1) := by decide +kernel
theorem dX12_rule_59 : decode cX12_rule 59 = .ok (.isub, 1) := by decide +kernel
theorem dX12_rule_60 : decode cX12_rule 60 = .ok (.ireturn, 1) := by decide +kernel
set_option maxRecDepth 20000 in
theorem ggX12_river_X12_readsAll : GoodIn wsX12_river wsX12_readsAll := goodIn_r _ [16, 17, 1, 18, 19, 8, 20, 21, 22, 23, 24, 15, 25, 26, 27, 28, 29, 30, 31, 32, 33, 34, 35, 36, 37, 38, 39, 40, 41, 42, 43, 44, 45, 46, 47, 48, 49, 50, 51, 52, 53, 54, 55, 56, 57, 58, 59, 60, 61, 62, 63, 64, 2, 65, 66, 67, 68, 69, 70, 71, 72, 73, 74, 75, 76, 77, 78, 79, 80, 81, 82, 83, 84, 85, 86, 87, 88, 6, 89, 90, 91, 92, 7, 93, 94, 95, 96, 3, 97, 98, 99, 100, 4, 101, 102, 103, 104, 5, 10, 105, 106, 107, 108, 109, 110, 111, 112, 113, 114, 115, 116, 117, 118, 119, 120, 121, 122, 123, 11, 124, 125, 126, 127, 128, 129, 130, 131, 132, 133, 134, 135, 136, 137, 138, 139, 140, 141, 142, 143, 144, 145, 146, 147, 148, 149, 150, 151, 152, 153, 154, 155, 156, 157, 158, 159, 160, 161, 162, 163, 164, 165, 166, 167, 168, 169, 170, 171, 172, 173, 174, 175, 176, 177, 178, 179, 180, 181, 182, 183, 184, 185, 186, 187, 188, 189, 190, 191, 192, 193, 194, 195, 196, 197, 198, 199, 200, 201, 202, 203, 204, 205, 206, 207, 208, 209, 210, 211, 212, 213, 214, 215, 216, 217, 218, 219, 220, 221, 222, 223, 224, 225, 226, 227, 228] rfl (by decide +kernel)
set_option maxRecDepth 20000 in
theorem gX12_river_X12_readsAll : GoodIn wsX12_river (wsV RX12 296 RX12 yX12_readsAll wsX12_readsAll) := goodIn_app (goodIn_of _ (by decide +kernel)) ggX12_river_X12_readsAll
theorem dX12_river_0 : decode cX12_river 0 = .ok (.aload_n 0, 1) := by decide +kernel
theorem dX12_river_1 : decode cX12_river 1 = .ok (.bipush 6, 2) := by decide +kernel
theorem dX12_river_3 : decode cX12_river 3 = .ok (.putfield 153, 3) := by decide +kernel
theorem dX12_river_6 : decode cX12_river 6 = .ok (.aload_n 0, 1) := by decide +kernel
theorem dX12_river_7 : decode cX12_river 7 = .ok (.iconst 0, 1) := by decide +kernel
theorem dX12_river_8 : decode cX12_river 8 = .ok (.putfield 225, 3) := by decide +kernel
theorem dX12_river_11 : decode cX12_river 11 = .ok (.aload_n 0, 1) := by decide +kernel
theorem dX12_river_12 : decode cX12_river 12 = .ok (.iconst (-1), 1) := by decide +kernel
theorem dX12_river_13 : decode cX12_river 13 = .ok (.putfield 228, 3) := by decide +kernel
theorem dX12_river_16 : decode cX12_river 16 = .ok (.aload_n 0, 1) := by decide +kernel
theorem dX12_river_17 : decode cX12_river 17 = .ok (.iconst (-1), 1) := by decide +kernel
theorem dX12_river_18 : decode cX12_river 18 = .ok (.putfield 231, 3) := by decide +kernel
theorem dX12_river_21 : decode cX12_river 21 = .ok (.aload_n 0, 1) := by decide +kernel
theorem dX12_river_22 : decode cX12_river 22 = .ok (.iconst 0, 1) := by decide +kernel
theorem dX12_river_23 : decode cX12_river 23 = .ok (.putfield 234, 3) := by decide +kernel
theorem dX12_river_26 : decode cX12_river 26 = .ok (.iconst 0, 1) := by decide +kernel
theorem dX12_river_27 : decode cX12_river 27 = .ok (.istore_n 1, 1) := by decide +kernel
theorem dX12_river_28 : decode cX12_river 28 = .ok (.iload_n 1, 1) := by decide +kernel
theorem dX12_river_29 : decode cX12_river 29 = .ok (.iconst 4, 1) := by decide +kernel
theorem dX12_river_30 : decode cX12_river 30 = .ok (.if_icmp .ge 16, 3) := by decide +kernel
theorem dX12_river_33 : decode cX12_river 33 = .ok (.aload_n 0, 1) := by decide +kernel
theorem dX12_river_34 : decode cX12_river 34 = .ok (.getfield 26, 3) := by decide +kernel
theorem dX12_river_37 : decode cX12_river 37 = .ok (.iload_n 1, 1) := by decide +kernel
theorem dX12_river_38 : decode cX12_river 38 = .ok (.iconst 0, 1) := by decide +kernel
theorem dX12_river_39 : decode cX12_river 39 = .ok (.iastore, 1) := by decide +kernel
theorem dX12_river_40 : decode cX12_river 40 = .ok (.iinc 1 1, 3) := by decide +kernel
theorem dX12_river_43 : decode cX12_river 43 = .ok (.goto (-15), 3) := by decide +kernel
theorem dX12_river_46 : decode cX12_river 46 = .ok (.iconst 0, 1) := by decide +kernel
theorem dX12_river_47 : decode cX12_river 47 = .ok (.istore_n 1, 1) := by decide +kernel
theorem dX12_river_48 : decode cX12_river 48 = .ok (.iload_n 1, 1) := by decide +kernel
theorem dX12_river_49 : decode cX12_river 49 = .ok (.iconst 2, 1) := by decide +kernel
theorem dX12_river_50 : decode cX12_river 50 = .ok (.if_icmp .ge 16, 3) := by decide +kernel
theorem dX12_river_53 : decode cX12_river 53 = .ok (.aload_n 0, 1) := by decide +kernel
theorem dX12_river_54 : decode cX12_river 54 = .ok (.getfield 29, 3) := by decide +kernel
theorem dX12_river_57 : decode cX12_river 57 = .ok (.iload_n 1, 1) := by decide +kernel
theorem dX12_river_58 : decode cX12_river 58 = .ok (.iconst 0, 1) := by decide +kernel
theorem dX12_river_59 : decode cX12_river 59 = .ok (.iastore, 1) := by decide +kernel
theorem dX12_river_60 : decode cX12_river 60 = .ok (.iinc 1 1, 3) := by decide +kernel
theorem dX12_river_63 : decode cX12_river 63 = .ok (.goto (-15), 3) := by decide +kernel
theorem dX12_river_66 : decode cX12_river 66 = .ok (.aload_n 0, 1) := by decide +kernel
theorem dX12_river_67 : decode cX12_river 67 = .ok (.invokevirtual 296, 3) := by decide +kernel
theorem dX12_river_70 : decode cX12_river 70 = .ok (.ifCond .ne 11, 3) := by decide +kernel
theorem dX12_river_73 : decode cX12_river 73 = .ok (.bipush (-2), 2) := by decide +kernel
theorem dX12_river_75 : decode cX12_river 75 = .ok (.aload_n 0, 1) := by decide +kernel
theorem dX12_river_76 : decode cX12_river 76 = .ok (.getfield 100, 3) := by decide +kernel
theorem dX12_river_79 : decode cX12_river 79 = .ok (.isub, 1) := by decide +kernel
theorem dX12_river_80 : decode cX12_river 80 = .ok (.ireturn, 1) := by decide +kernel
theorem dX12_river_81 : decode cX12_river 81 = .ok (.aload_n 0, 1) := by decide +kernel
theorem dX12_river_82 : decode cX12_river 82 = .ok (.getfield 45, 3) := by decide +kernel
theorem dX12_river_85 : decode cX12_river 85 = .ok (.iconst 5, 1) := by decide +kernel
theorem dX12_river_86 : decode cX12_river 86 = .ok (.iaload, 1) := by decide +kernel
theorem dX12_river_87 : decode cX12_river 87 = .ok (.istore_n 1, 1) := by decide +kernel
theorem dX12_river_88 : decode cX12_river 88 = .ok (.iconst 0, 1) := by decide +kernel
theorem dX12_river_89 : decode cX12_river 89 = .ok (.istore_n 2, 1) := by decide +kernel
theorem dX12_river_90 : decode cX12_river 90 = .ok (.iload_n 2, 1) := by decide +kernel
theorem dX12_river_91 : decode cX12_river 91 = .ok (.sipush 286, 3) := by decide +kernel
theorem dX12_river_94 : decode cX12_river 94 = .ok (.if_icmp .ge 16, 3) := by decide +kernel
theorem dX12_river_97 : decode cX12_river 97 = .ok (.aload_n 0, 1) := by decide +kernel
theorem dX12_river_98 : decode cX12_river 98 = .ok (.getfield 45, 3) := by decide +kernel
theorem dX12_river_101 : decode cX12_river 101 = .ok (.iload_n 2, 1) := by decide +kernel
theorem dX12_river_102 : decode cX12_river 102 = .ok (.iconst 0, 1) := by decide +kernel
theorem dX12_river_103 : decode cX12_river 103 = .ok (.iastore, 1) := by decide +kernel
theorem dX12_river_104 : decode cX12_river 104 = .ok (.iinc 2 1, 3) := by decide +kernel
theorem dX12_river_107 : decode cX12_river 107 = .ok (.goto (-17), 3) := by decide +kernel
theorem dX12_river_110 : decode cX12_river 110 = .ok (.aload_n 0, 1) := by decide +kernel
theorem dX12_river_111 : decode cX12_river 111 = .ok (.getfield 45, 3) := by decide +kernel
theorem dX12_river_114 : decode cX12_river 114 = .ok (.iconst 0, 1) := by decide +kernel
theorem dX12_river_115 : decode cX12_river 115 = .ok (.aload_n 0, 1) := by decide +kernel
theorem dX12_river_116 : decode cX12_river 116 = .ok (.getfield 225, 3) := by decide +kernel
theorem dX12_river_119 : decode cX12_river 119 = .ok (.iastore, 1) := by decide +kernel
theorem dX12_river_120 : decode cX12_river 120 = .ok (.aload_n 0, 1) := by decide +kernel
theorem dX12_river_121 : decode cX12_river 121 = .ok (.getfield 45, 3) := by decide +kernel
theorem dX12_river_124 : decode cX12_river 124 = .ok (.iconst 2, 1) := by decide +kernel
theorem dX12_river_125 : decode cX12_river 125 = .ok (.aload_n 0, 1) := by decide +kernel
theorem dX12_river_126 : decode cX12_river 126 = .ok (.getfield 228, 3) := by decide +kernel
theorem dX12_river_129 : decode cX12_river 129 = .ok (.ifCond .ge 7, 3) := by decide +kernel
theorem dX12_river_132 : decode cX12_river 132 = .ok (.iconst 1, 1) := by decide +kernel
theorem dX12_river_133 : decode cX12_river 133 = .ok (.goto 7, 3) := by decide +kernel
theorem dX12_river_136 : decode cX12_river 136 = .ok (.aload_n 0, 1) := by decide +kernel
theorem dX12_river_137 : decode cX12_river 137 = .ok (.getfield 228, 3) := by decide +kernel
theorem dX12_river_140 : decode cX12_river 140 = .ok (.iastore, 1) := by decide +kernel
theorem dX12_river_141 : decode cX12_river 141 = .ok (.aload_n 0, 1) := by decide +kernel
theorem dX12_river_142 : decode cX12_river 142 = .ok (.getfield 45, 3) := by decide +kernel
theorem dX12_river_145 : decode cX12_river 145 = .ok (.iconst 3, 1) := by decide +kernel
theorem dX12_river_146 : decode cX12_river 146 = .ok (.aload_n 0, 1) := by decide +kernel
theorem dX12_river_147 : decode cX12_river 147 = .ok (.getfield 231, 3) := by decide +kernel
theorem dX12_river_150 : decode cX12_river 150 = .ok (.ifCond .ge 7, 3) := by decide +kernel
theorem dX12_river_153 : decode cX12_river 153 = .ok (.iconst 0, 1) := by decide +kernel
theorem dX12_river_154 : decode cX12_river 154 = .ok (.goto 7, 3) := by decide +kernel
theorem dX12_river_157 : decode cX12_river 157 = .ok (.aload_n 0, 1) := by decide +kernel
theorem dX12_river_158 : decode cX12_river 158 = .ok (.getfield 231, 3) := by decide +kernel
theorem dX12_river_161 : decode cX12_river 161 = .ok (.iastore, 1) := by decide +kernel
theorem dX12_river_162 : decode cX12_river 162 = .ok (.aload_n 0, 1) := by decide +kernel
theorem dX12_river_163 : decode cX12_river 163 = .ok (.getfield 45, 3) := by decide +kernel
theorem dX12_river_166 : decode cX12_river 166 = .ok (.iconst 4, 1) := by decide +kernel
theorem dX12_river_167 : decode cX12_river 167 = .ok (.aload_n 0, 1) := by decide +kernel
theorem dX12_river_168 : decode cX12_river 168 = .ok (.getfield 234, 3) := by decide +kernel
theorem dX12_river_171 : decode cX12_river 171 = .ok (.iastore, 1) := by decide +kernel
theorem dX12_river_172 : decode cX12_river 172 = .ok (.aload_n 0, 1) := by decide +kernel
theorem dX12_river_173 : decode cX12_river 173 = .ok (.getfield 45, 3) := by decide +kernel
theorem dX12_river_176 : decode cX12_river 176 = .ok (.iconst 5, 1) := by decide +kernel
theorem dX12_river_177 : decode cX12_river 177 = .ok (.iload_n 1, 1) := by decide +kernel
theorem dX12_river_178 : decode cX12_river 178 = .ok (.iastore, 1) := by decide +kernel
theorem dX12_river_179 : decode cX12_river 179 = .ok (.iconst 0, 1) := by decide +kernel
theorem dX12_river_180 : decode cX12_river 180 = .ok (.istore_n 2, 1) := by decide +kernel
theorem dX12_river_181 : decode cX12_river 181 = .ok (.iload_n 2, 1) := by decide +kernel
theorem dX12_river_182 : decode cX12_river 182 = .ok (.iconst 4, 1) := by decide +kernel
theorem dX12_river_183 : decode cX12_river 183 = .ok (.if_icmp .ge 24, 3) := by decide +kernel
theorem dX12_river_186 : decode cX12_river 186 = .ok (.aload_n 0, 1) := by decide +kernel
theorem dX12_river_187 : decode cX12_river 187 = .ok (.getfield 45, 3) := by decide +kernel
theorem dX12_river_190 : decode cX12_river 190 = .ok (.bipush 8, 2) := by decide +kernel
theorem dX12_river_192 : decode cX12_river 192 = .ok (.iload_n 2, 1) := by decide +kernel
theorem dX12_river_193 : decode cX12_river 193 = .ok (.iadd, 1) := by decide +kernel
theorem dX12_river_194 : decode cX12_river 194 = .ok (.aload_n 0, 1) := by decide +kernel
theorem dX12_river_195 : decode cX12_river 195 = .ok (.getfield 26, 3) := by decide +kernel
theorem dX12_river_198 : decode cX12_river 198 = .ok (.iload_n 2, 1) := by decide +kernel
theorem dX12_river_199 : decode cX12_river 199 = .ok (.iaload, 1) := by decide +kernel
theorem dX12_river_200 : decode cX12_river 200 = .ok (.iastore, 1) := by decide +kernel
theorem dX12_river_201 : decode cX12_river 201 = .ok (.iinc 2 1, 3) := by decide +kernel
theorem dX12_river_204 : decode cX12_river 204 = .ok (.goto (-23), 3) := by decide +kernel
theorem dX12_river_207 : decode cX12_river 207 = .ok (.iconst 0, 1) := by decide +kernel
theorem dX12_river_208 : decode cX12_river 208 = .ok (.istore_n 2, 1) := by decide +kernel
theorem dX12_river_209 : decode cX12_river 209 = .ok (.iload_n 2, 1) := by decide +kernel
theorem dX12_river_210 : decode cX12_river 210 = .ok (.iconst 2, 1) := by decide +kernel
theorem dX12_river_211 : decode cX12_river 211 = .ok (.if_icmp .ge 24, 3) := by decide +kernel
theorem dX12_river_214 : decode cX12_river 214 = .ok (.aload_n 0, 1) := by decide +kernel
theorem dX12_river_215 : decode cX12_river 215 = .ok (.getfield 45, 3) := by decide +kernel
theorem dX12_river_218 : decode cX12_river 218 = .ok (.bipush 12, 2) := by decide +kernel
theorem dX12_river_220 : decode cX12_river 220 = .ok (.iload_n 2, 1) := by decide +kernel
theorem dX12_river_221 : decode cX12_river 221 = .ok (.iadd, 1) := by decide +kernel
theorem dX12_river_222 : decode cX12_river 222 = .ok (.aload_n 0, 1) := by decide +kernel
theorem dX12_river_223 : decode cX12_river 223 = .ok (.getfield 29, 3) := by decide +kernel
theorem dX12_river_226 : decode cX12_river 226 = .ok (.iload_n 2, 1) := by decide +kernel
theorem dX12_river_227 : decode cX12_river 227 = .ok (.iaload, 1) := by decide +kernel
theorem dX12_river_228 : decode cX12_river 228 = .ok (.iastore, 1) := by decide +kernel
theorem dX12_river_229 : decode cX12_river 229 = .ok (.iinc 2 1, 3) := by decide +kernel
theorem dX12_river_232 : decode cX12_river 232 = .ok (.goto (-23), 3) := by decide +kernel
theorem dX12_river_235 : decode cX12_river 235 = .ok (.iconst 0, 1) := by decide +kernel
theorem dX12_river_236 : decode cX12_river 236 = .ok (.istore_n 2, 1) := by decide +kernel
theorem dX12_river_237 : decode cX12_river 237 = .ok (.iload_n 2, 1) := by decide +kernel
theorem dX12_river_238 : decode cX12_river 238 = .ok (.iconst 2, 1) := by decide +kernel
theorem dX12_river_239 : decode cX12_river 239 = .ok (.aload_n 0, 1) := by decide +kernel
theorem dX12_river_240 : decode cX12_river 240 = .ok (.getfield 234, 3) := by decide +kernel
theorem dX12_river_243 : decode cX12_river 243 = .ok (.imul, 1) := by decide +kernel
theorem dX12_river_244 : decode cX12_river 244 = .ok (.if_icmp .ge 24, 3) := by decide +kernel
theorem dX12_river_247 : decode cX12_river 247 = .ok (.aload_n 0, 1) := by decide +kernel
theorem dX12_river_248 : decode cX12_river 248 = .ok (.getfield 45, 3) := by decide +kernel
theorem dX12_river_251 : decode cX12_river 251 = .ok (.bipush 14, 2) := by decide +kernel
theorem dX12_river_253 : decode cX12_river 253 = .ok (.iload_n 2, 1) := by decide +kernel
theorem dX12_river_254 : decode cX12_river 254 = .ok (.iadd, 1) := by decide +kernel
theorem dX12_river_255 : decode cX12_river 255 = .ok (.aload_n 0, 1) := by decide +kernel
theorem dX12_river_256 : decode cX12_river 256 = .ok (.getfield 32, 3) := by decide +kernel
theorem dX12_river_259 : decode cX12_river 259 = .ok (.iload_n 2, 1) := by decide +kernel
theorem dX12_river_260 : decode cX12_river 260 = .ok (.iaload, 1) := by decide +kernel
theorem dX12_river_261 : decode cX12_river 261 = .ok (.iastore, 1) := by decide +kernel
theorem dX12_river_262 : decode cX12_river 262 = .ok (.iinc 2 1, 3) := by decide +kernel
theorem dX12_river_265 : decode cX12_river 265 = .ok (.goto (-28), 3) := by decide +kernel
theorem dX12_river_268 : decode cX12_river 268 = .ok (.iconst 0, 1) := by decide +kernel
theorem dX12_river_269 : decode cX12_river 269 = .ok (.istore_n 2, 1) := by decide +kernel
theorem dX12_river_270 : decode cX12_river 270 = .ok (.iload_n 2, 1) := by decide +kernel
theorem dX12_river_271 : decode cX12_river 271 = .ok (.bipush 80, 2) := by decide +kernel
theorem dX12_river_273 : decode cX12_river 273 = .ok (.if_icmp .ge 20, 3) := by decide +kernel
theorem dX12_river_276 : decode cX12_river 276 = .ok (.aload_n 0, 1) := by decide +kernel
theorem dX12_river_277 : decode cX12_river 277 = .ok (.getfield 45, 3) := by decide +kernel
theorem dX12_river_280 : decode cX12_river 280 = .ok (.bipush 46, 2) := by decide +kernel
theorem dX12_river_282 : decode cX12_river 282 = .ok (.iload_n 2, 1) := by decide +kernel
theorem dX12_river_283 : decode cX12_river 283 = .ok (.iadd, 1) := by decide +kernel
theorem dX12_river_284 : decode cX12_river 284 = .ok (.ldc 173, 2) := by decide +kernel
theorem dX12_river_286 : decode cX12_river 286 = .ok (.iastore, 1) := by decide +kernel
theorem dX12_river_287 : decode cX12_river 287 = .ok (.iinc 2 1, 3) := by decide +kernel
theorem dX12_river_290 : decode cX12_river 290 = .ok (.goto (-20), 3) := by decide +kernel
theorem dX12_river_293 : decode cX12_river 293 = .ok (.aload_n 0, 1) := by decide +kernel
theorem dX12_river_294 : decode cX12_river 294 = .ok (.getfield 225, 3) := by decide +kernel
theorem dX12_river_297 : decode cX12_river 297 = .ok (.ireturn, 1) := by decide +kernel
theorem dX12_isRule_0 : decode cX12_isRule 0 = .ok (.iload_n 1, 1) := by decide +kernel
theorem dX12_isRule_1 : decode cX12_isRule 1 = .ok (.iconst (-1), 1) := by decide +kernel
theorem dX12_isRule_2 : decode cX12_isRule 2 = .ok (.if_icmp .lt 15, 3) := by decide +kernel
theorem dX12_isRule_5 : decode cX12_isRule 5 = .ok (.iload_n 1, 1) := by decide +kernel
theorem dX12_isRule_6 : decode cX12_isRule 6 = .ok (.aload_n 0, 1) := by decide +kernel
theorem dX12_isRule_7 : decode cX12_isRule 7 = .ok (.getfield 293, 3) := by decide +kernel
theorem dX12_isRule_10 : decode cX12_isRule 10 = .ok (.if_icmp .ge 7, 3) := by decide +kernel
theorem dX12_isRule_13 : decode cX12_isRule 13 = .ok (.iconst 1, 1) := by decide +kernel
theorem dX12_isRule_14 : decode cX12_isRule 14 = .ok (.goto 4, 3) := by decide +kernel
theorem dX12_isRule_17 : decode cX12_isRule 17 = .ok (.iconst 0, 1) := by decide +kernel
theorem dX12_isRule_18 : decode cX12_isRule 18 = .ok (.ireturn, 1) := by decide +kernel
theorem dX12_push_0 : decode cX12_push 0 = .ok (.aload_n 0, 1) := by decide +kernel
theorem dX12_push_1 : decode cX12_push 1 = .ok (.getfield 38, 3) := by decide +kernel
theorem dX12_push_4 : decode cX12_push 4 = .ok (.aload_n 0, 1) := by decide +kernel
theorem dX12_push_5 : decode cX12_push 5 = .ok (.getfield 299, 3) := by decide +kernel
theorem dX12_push_8 : decode cX12_push 8 = .ok (.lload_n 1, 1) := by decide +kernel
theorem dX12_push_9 : decode cX12_push 9 = .ok (.lastore, 1) := by decide +kernel
theorem dX12_push_10 : decode cX12_push 10 = .ok (.aload_n 0, 1) := by decide +kernel
theorem dX12_push_11 : decode cX12_push 11 = .ok (.dup, 1) := by decide +kernel
theorem dX12_push_12 : decode cX12_push 12 = .ok (.getfield 299, 3) := by decide +kernel
theorem dX12_push_15 : decode cX12_push 15 = .ok (.iconst 1, 1) := by decide +kernel
theorem dX12_push_16 : decode cX12_push 16 = .ok (.iadd, 1) := by decide +kernel
theorem dX12_push_17 : decode cX12_push 17 = .ok (.putfield 299, 3) := by decide +kernel
theorem dX12_push_20 : decode cX12_push 20 = .ok (.return_, 1) := by decide +kernel
theorem dX12_pop_0 : decode cX12_pop 0 = .ok (.aload_n 0, 1) := by decide +kernel
theorem dX12_pop_1 : decode cX12_pop 1 = .ok (.dup, 1) := by decide +kernel
theorem dX12_pop_2 : decode cX12_pop 2 = .ok (.getfield 299, 3) := by decide +kernel
theorem dX12_pop_5 : decode cX12_pop 5 = .ok (.iconst 1, 1) := by decide +kernel
theorem dX12_pop_6 : decode cX12_pop 6 = .ok (.isub, 1) := by decide +kernel
theorem dX12_pop_7 : decode cX12_pop 7 = .ok (.putfield 299, 3) := by decide +kernel
theorem dX12_pop_10 : decode cX12_pop 10 = .ok (.aload_n 0, 1) := by decide +kernel
theorem dX12_pop_11 : decode cX12_pop 11 = .ok (.getfield 38, 3) := by decide +kernel
theorem dX12_pop_14 : decode cX12_pop 14 = .ok (.aload_n 0, 1) := by decide +kernel
theorem dX12_pop_15 : decode cX12_pop 15 = .ok (.getfield 299, 3) := by decide +kernel
theorem dX12_pop_18 : decode cX12_pop 18 = .ok (.laload, 1) := by decide +kernel
theorem dX12_pop_19 : decode cX12_pop 19 = .ok (.lreturn, 1) := by decide +kernel
theorem dX12_one_0 : decode cX12_one 0 = .ok (.iload_n 0, 1) := by decide +kernel
theorem dX12_one_1 : decode cX12_one 1 = .ok (.tableswitch 149 2 12 #[59, 63, 67, 71, 85, 97, 109, 121, 133, 149, 145], 59) := by decide +kernel
theorem dX12_one_60 : decode cX12_one 60 = .ok (.lload_n 1, 1) := by decide +kernel
theorem dX12_one_61 : decode cX12_one 61 = .ok (.lload_n 3, 1) := by decide +kernel
theorem dX12_one_62 : decode cX12_one 62 = .ok (.ladd, 1) := by decide +kernel
theorem dX12_one_63 : decode cX12_one 63 = .ok (.lreturn, 1) := by decide +kernel
theorem dX12_one_64 : decode cX12_one 64 = .ok (.lload_n 1, 1) := by decide +kernel
theorem dX12_one_65 : decode cX12_one 65 = .ok (.lload_n 3, 1) := by decide +kernel
theorem dX12_one_66 : decode cX12_one 66 = .ok (.lsub, 1) := by decide +kernel
theorem dX12_one_67 : decode cX12_one 67 = .ok (.lreturn, 1) := by decide +kernel
theorem dX12_one_68 : decode cX12_one 68 = .ok (.lload_n 1, 1) := by decide +kernel
theorem dX12_one_69 : decode cX12_one 69 = .ok (.lload_n 3, 1) := by decide +kernel
theorem dX12_one_70 : decode cX12_one 70 = .ok (.lmul, 1) := by decide +kernel
theorem dX12_one_71 : decode cX12_one 71 = .ok (.lreturn, 1) := by decide +kernel
theorem dX12_one_72 : decode cX12_one 72 = .ok (.lload_n 3, 1) := by decide +kernel
theorem dX12_one_73 : decode cX12_one 73 = .ok (.lconst 0, 1) := by decide +kernel
theorem dX12_one_74 : decode cX12_one 74 = .ok (.lcmp, 1) := by decide +kernel
theorem dX12_one_75 : decode cX12_one 75 = .ok (.ifCond .ne 7, 3) := by decide +kernel
theorem dX12_one_78 : decode cX12_one 78 = .ok (.lconst 0, 1) := by decide +kernel
theorem dX12_one_79 : decode cX12_one 79 = .ok (.goto 6, 3) := by decide +kernel
theorem dX12_one_82 : decode cX12_one 82 = .ok (.lload_n 1, 1) := by decide +kernel
theorem dX12_one_83 : decode cX12_one 83 = .ok (.lload_n 3, 1) := by decide +kernel
theorem dX12_one_84 : decode cX12_one 84 = .ok (.ldiv, 1) := by decide +kernel
theorem dX12_one_85 : decode cX12_one 85 = .ok (.lreturn, 1) := by decide +kernel
theorem dX12_one_86 : decode cX12_one 86 = .ok (.lload_n 1, 1) := by decide +kernel
theorem dX12_one_87 : decode cX12_one 87 = .ok (.lload_n 3, 1) := by decide +kernel
theorem dX12_one_88 : decode cX12_one 88 = .ok (.lcmp, 1) := by decide +kernel
theorem dX12_one_89 : decode cX12_one 89 = .ok (.ifCond .ge 7, 3) := by decide +kernel
theorem dX12_one_92 : decode cX12_one 92 = .ok (.lconst 1, 1) := by decide +kernel
theorem dX12_one_93 : decode cX12_one 93 = .ok (.goto 4, 3) := by decide +kernel
theorem dX12_one_96 : decode cX12_one 96 = .ok (.lconst 0, 1) := by decide +kernel
theorem dX12_one_97 : decode cX12_one 97 = .ok (.lreturn, 1) := by decide +kernel
theorem dX12_one_98 : decode cX12_one 98 = .ok (.lload_n 1, 1) := by decide +kernel
theorem dX12_one_99 : decode cX12_one 99 = .ok (.lload_n 3, 1) := by decide +kernel
theorem dX12_one_100 : decode cX12_one 100 = .ok (.lcmp, 1) := by decide +kernel
theorem dX12_one_101 : decode cX12_one 101 = .ok (.ifCond .gt 7, 3) := by decide +kernel
theorem dX12_one_104 : decode cX12_one 104 = .ok (.lconst 1, 1) := by decide +kernel
theorem dX12_one_105 : decode cX12_one 105 = .ok (.goto 4, 3) := by decide +kernel
theorem dX12_one_108 : decode cX12_one 108 = .ok (.lconst 0, 1) := by decide +kernel
theorem dX12_one_109 : decode cX12_one 109 = .ok (.lreturn, 1) := by decide +kernel
theorem dX12_one_110 : decode cX12_one 110 = .ok (.lload_n 1, 1) := by decide +kernel
theorem dX12_one_111 : decode cX12_one 111 = .ok (.lload_n 3, 1) := by decide +kernel
theorem dX12_one_112 : decode cX12_one 112 = .ok (.lcmp, 1) := by decide +kernel
theorem dX12_one_113 : decode cX12_one 113 = .ok (.ifCond .ne 7, 3) := by decide +kernel
theorem dX12_one_116 : decode cX12_one 116 = .ok (.lconst 1, 1) := by decide +kernel
theorem dX12_one_117 : decode cX12_one 117 = .ok (.goto 4, 3) := by decide +kernel
theorem dX12_one_120 : decode cX12_one 120 = .ok (.lconst 0, 1) := by decide +kernel
theorem dX12_one_121 : decode cX12_one 121 = .ok (.lreturn, 1) := by decide +kernel
theorem dX12_one_122 : decode cX12_one 122 = .ok (.lload_n 1, 1) := by decide +kernel
theorem dX12_one_123 : decode cX12_one 123 = .ok (.lload_n 3, 1) := by decide +kernel
theorem dX12_one_124 : decode cX12_one 124 = .ok (.lcmp, 1) := by decide +kernel
theorem dX12_one_125 : decode cX12_one 125 = .ok (.ifCond .lt 7, 3) := by decide +kernel
theorem dX12_one_128 : decode cX12_one 128 = .ok (.lconst 1, 1) := by decide +kernel
theorem dX12_one_129 : decode cX12_one 129 = .ok (.goto 4, 3) := by decide +kernel
theorem dX12_one_132 : decode cX12_one 132 = .ok (.lconst 0, 1) := by decide +kernel
theorem dX12_one_133 : decode cX12_one 133 = .ok (.lreturn, 1) := by decide +kernel
theorem dX12_one_134 : decode cX12_one 134 = .ok (.lload_n 1, 1) := by decide +kernel
theorem dX12_one_135 : decode cX12_one 135 = .ok (.lload_n 3, 1) := by decide +kernel
theorem dX12_one_136 : decode cX12_one 136 = .ok (.lcmp, 1) := by decide +kernel
theorem dX12_one_137 : decode cX12_one 137 = .ok (.ifCond .le 7, 3) := by decide +kernel
theorem dX12_one_140 : decode cX12_one 140 = .ok (.lconst 1, 1) := by decide +kernel
theorem dX12_one_141 : decode cX12_one 141 = .ok (.goto 4, 3) := by decide +kernel
theorem dX12_one_144 : decode cX12_one 144 = .ok (.lconst 0, 1) := by decide +kernel
theorem dX12_one_145 : decode cX12_one 145 = .ok (.lreturn, 1) := by decide +kernel
theorem dX12_one_146 : decode cX12_one 146 = .ok (.lload_n 1, 1) := by decide +kernel
theorem dX12_one_147 : decode cX12_one 147 = .ok (.lload_n 3, 1) := by decide +kernel
theorem dX12_one_148 : decode cX12_one 148 = .ok (.land, 1) := by decide +kernel
theorem dX12_one_149 : decode cX12_one 149 = .ok (.lreturn, 1) := by decide +kernel
theorem dX12_one_150 : decode cX12_one 150 = .ok (.lload_n 1, 1) := by decide +kernel
theorem dX12_one_151 : decode cX12_one 151 = .ok (.lload_n 3, 1) := by decide +kernel
theorem dX12_one_152 : decode cX12_one 152 = .ok (.lor, 1) := by decide +kernel
theorem dX12_one_153 : decode cX12_one 153 = .ok (.lreturn, 1) := by decide +kernel
set_option maxRecDepth 20000 in
theorem ggX12_reckons_X12_push : GoodIn wsX12_reckons wsX12_push := goodIn_r _ [8, 9, 1, 17, 18, 19, 20, 21, 22, 23, 24, 25, 26, 27, 28, 29, 30, 31, 32, 33, 34, 35, 36, 37, 38, 39, 40, 41, 42, 43, 44, 45, 46, 47, 48, 49, 50, 51, 52, 53, 54, 55, 56, 57, 58] rfl (by decide +kernel)
set_option maxRecDepth 20000 in
theorem gX12_reckons_X12_push : GoodIn wsX12_reckons (wsV RX12 302 RX12 yX12_push wsX12_push) := goodIn_app (goodIn_of _ (by decide +kernel)) ggX12_reckons_X12_push
set_option maxRecDepth 20000 in
theorem ggX12_reckons_X12_pop : GoodIn wsX12_reckons wsX12_pop := goodIn_r _ [13, 1, 9, 17, 18, 19, 20, 21, 22, 23, 24, 25, 26, 27, 28, 29, 30, 31, 32, 33, 34, 35, 36, 37, 38, 39, 40, 41, 42, 43, 44, 45, 46, 47, 48, 49, 50, 51, 52, 53, 54, 55, 56, 57, 58] rfl (by decide +kernel)
set_option maxRecDepth 20000 in
theorem gX12_reckons_X12_pop : GoodIn wsX12_reckons (wsV RX12 306 RX12 yX12_pop wsX12_pop) := goodIn_app (goodIn_of _ (by decide +kernel)) ggX12_reckons_X12_pop
set_option maxRecDepth 20000 in
theorem ggX12_reckons_X12_one : GoodIn wsX12_reckons wsX12_one := goodIn_r _ [16] rfl (by decide +kernel)
set_option maxRecDepth 20000 in
theorem gX12_reckons_X12_one : GoodIn wsX12_reckons (va_wsS RX12 310 yX12_one wsX12_one) := goodIn_app (goodIn_of _ (by decide +kernel)) ggX12_reckons_X12_one
theorem dX12_reckons_0 : decode cX12_reckons 0 = .ok (.aload_n 0, 1) := by decide +kernel
theorem dX12_reckons_1 : decode cX12_reckons 1 = .ok (.iconst 0, 1) := by decide +kernel
theorem dX12_reckons_2 : decode cX12_reckons 2 = .ok (.putfield 299, 3) := by decide +kernel
theorem dX12_reckons_5 : decode cX12_reckons 5 = .ok (.iload_n 2, 1) := by decide +kernel
theorem dX12_reckons_6 : decode cX12_reckons 6 = .ok (.istore 4, 2) := by decide +kernel
theorem dX12_reckons_8 : decode cX12_reckons 8 = .ok (.iload 4, 2) := by decide +kernel
theorem dX12_reckons_10 : decode cX12_reckons 10 = .ok (.iload_n 3, 1) := by decide +kernel
theorem dX12_reckons_11 : decode cX12_reckons 11 = .ok (.if_icmp .ge 124, 3) := by decide +kernel
theorem dX12_reckons_14 : decode cX12_reckons 14 = .ok (.aload_n 0, 1) := by decide +kernel
theorem dX12_reckons_15 : decode cX12_reckons 15 = .ok (.getfield 13, 3) := by decide +kernel
theorem dX12_reckons_18 : decode cX12_reckons 18 = .ok (.sipush 400, 3) := by decide +kernel
theorem dX12_reckons_21 : decode cX12_reckons 21 = .ok (.iload_n 1, 1) := by decide +kernel
theorem dX12_reckons_22 : decode cX12_reckons 22 = .ok (.imul, 1) := by decide +kernel
theorem dX12_reckons_23 : decode cX12_reckons 23 = .ok (.iload 4, 2) := by decide +kernel
theorem dX12_reckons_25 : decode cX12_reckons 25 = .ok (.iadd, 1) := by decide +kernel
theorem dX12_reckons_26 : decode cX12_reckons 26 = .ok (.iaload, 1) := by decide +kernel
theorem dX12_reckons_27 : decode cX12_reckons 27 = .ok (.bipush 15, 2) := by decide +kernel
theorem dX12_reckons_29 : decode cX12_reckons 29 = .ok (.iand, 1) := by decide +kernel
theorem dX12_reckons_30 : decode cX12_reckons 30 = .ok (.istore 5, 2) := by decide +kernel
theorem dX12_reckons_32 : decode cX12_reckons 32 = .ok (.aload_n 0, 1) := by decide +kernel
theorem dX12_reckons_33 : decode cX12_reckons 33 = .ok (.getfield 13, 3) := by decide +kernel
theorem dX12_reckons_36 : decode cX12_reckons 36 = .ok (.sipush 400, 3) := by decide +kernel
theorem dX12_reckons_39 : decode cX12_reckons 39 = .ok (.iload_n 1, 1) := by decide +kernel
theorem dX12_reckons_40 : decode cX12_reckons 40 = .ok (.imul, 1) := by decide +kernel
theorem dX12_reckons_41 : decode cX12_reckons 41 = .ok (.iload 4, 2) := by decide +kernel
theorem dX12_reckons_43 : decode cX12_reckons 43 = .ok (.iadd, 1) := by decide +kernel
theorem dX12_reckons_44 : decode cX12_reckons 44 = .ok (.iaload, 1) := by decide +kernel
theorem dX12_reckons_45 : decode cX12_reckons 45 = .ok (.iconst 4, 1) := by decide +kernel
theorem dX12_reckons_46 : decode cX12_reckons 46 = .ok (.ishr, 1) := by decide +kernel
theorem dX12_reckons_47 : decode cX12_reckons 47 = .ok (.istore 6, 2) := by decide +kernel
theorem dX12_reckons_49 : decode cX12_reckons 49 = .ok (.iload 5, 2) := by decide +kernel
theorem dX12_reckons_51 : decode cX12_reckons 51 = .ok (.ifCond .ne 13, 3) := by decide +kernel
theorem dX12_reckons_54 : decode cX12_reckons 54 = .ok (.aload_n 0, 1) := by decide +kernel
theorem dX12_reckons_55 : decode cX12_reckons 55 = .ok (.iload 6, 2) := by decide +kernel
theorem dX12_reckons_57 : decode cX12_reckons 57 = .ok (.i2l, 1) := by decide +kernel
theorem dX12_reckons_58 : decode cX12_reckons 58 = .ok (.invokevirtual 302, 3) := by decide +kernel
theorem dX12_reckons_61 : decode cX12_reckons 61 = .ok (.goto 68, 3) := by decide +kernel
theorem dX12_reckons_64 : decode cX12_reckons 64 = .ok (.iload 5, 2) := by decide +kernel
theorem dX12_reckons_66 : decode cX12_reckons 66 = .ok (.iconst 1, 1) := by decide +kernel
theorem dX12_reckons_67 : decode cX12_reckons 67 = .ok (.if_icmp .ne 17, 3) := by decide +kernel
theorem dX12_reckons_70 : decode cX12_reckons 70 = .ok (.aload_n 0, 1) := by decide +kernel
theorem dX12_reckons_71 : decode cX12_reckons 71 = .ok (.aload_n 0, 1) := by decide +kernel
theorem dX12_reckons_72 : decode cX12_reckons 72 = .ok (.getfield 42, 3) := by decide +kernel
theorem dX12_reckons_75 : decode cX12_reckons 75 = .ok (.iload 6, 2) := by decide +kernel
theorem dX12_reckons_77 : decode cX12_reckons 77 = .ok (.laload, 1) := by decide +kernel
theorem dX12_reckons_78 : decode cX12_reckons 78 = .ok (.invokevirtual 302, 3) := by decide +kernel
theorem dX12_reckons_81 : decode cX12_reckons 81 = .ok (.goto 48, 3) := by decide +kernel
theorem dX12_reckons_84 : decode cX12_reckons 84 = .ok (.iload 5, 2) := by decide +kernel
theorem dX12_reckons_86 : decode cX12_reckons 86 = .ok (.bipush 11, 2) := by decide +kernel
theorem dX12_reckons_88 : decode cX12_reckons 88 = .ok (.if_icmp .ne 16, 3) := by decide +kernel
theorem dX12_reckons_91 : decode cX12_reckons 91 = .ok (.aload_n 0, 1) := by decide +kernel
theorem dX12_reckons_92 : decode cX12_reckons 92 = .ok (.lconst 1, 1) := by decide +kernel
theorem dX12_reckons_93 : decode cX12_reckons 93 = .ok (.aload_n 0, 1) := by decide +kernel
theorem dX12_reckons_94 : decode cX12_reckons 94 = .ok (.invokevirtual 306, 3) := by decide +kernel
theorem dX12_reckons_97 : decode cX12_reckons 97 = .ok (.lsub, 1) := by decide +kernel
theorem dX12_reckons_98 : decode cX12_reckons 98 = .ok (.invokevirtual 302, 3) := by decide +kernel
theorem dX12_reckons_101 : decode cX12_reckons 101 = .ok (.goto 28, 3) := by decide +kernel
theorem dX12_reckons_104 : decode cX12_reckons 104 = .ok (.aload_n 0, 1) := by decide +kernel
theorem dX12_reckons_105 : decode cX12_reckons 105 = .ok (.invokevirtual 306, 3) := by decide +kernel
theorem dX12_reckons_108 : decode cX12_reckons 108 = .ok (.lstore 7, 2) := by decide +kernel
theorem dX12_reckons_110 : decode cX12_reckons 110 = .ok (.aload_n 0, 1) := by decide +kernel
theorem dX12_reckons_111 : decode cX12_reckons 111 = .ok (.invokevirtual 306, 3) := by decide +kernel
theorem dX12_reckons_114 : decode cX12_reckons 114 = .ok (.lstore 9, 2) := by decide +kernel
theorem dX12_reckons_116 : decode cX12_reckons 116 = .ok (.aload_n 0, 1) := by decide +kernel
theorem dX12_reckons_117 : decode cX12_reckons 117 = .ok (.iload 5, 2) := by decide +kernel
theorem dX12_reckons_119 : decode cX12_reckons 119 = .ok (.lload 9, 2) := by decide +kernel
theorem dX12_reckons_121 : decode cX12_reckons 121 = .ok (.lload 7, 2) := by decide +kernel
theorem dX12_reckons_123 : decode cX12_reckons 123 = .ok (.invokestatic 310, 3) := by decide +kernel
theorem dX12_reckons_126 : decode cX12_reckons 126 = .ok (.invokevirtual 302, 3) := by decide +kernel
theorem dX12_reckons_129 : decode cX12_reckons 129 = .ok (.iinc 4 1, 3) := by decide +kernel
theorem dX12_reckons_132 : decode cX12_reckons 132 = .ok (.goto (-124), 3) := by decide +kernel
theorem dX12_reckons_135 : decode cX12_reckons 135 = .ok (.aload_n 0, 1) := by decide +kernel
theorem dX12_reckons_136 : decode cX12_reckons 136 = .ok (.invokevirtual 306, 3) := by decide +kernel
theorem dX12_reckons_139 : decode cX12_reckons 139 = .ok (.lreturn, 1) := by decide +kernel
theorem dX12_isRiver_0 : decode cX12_isRiver 0 = .ok (.aload_n 0, 1) := by decide +kernel
theorem dX12_isRiver_1 : decode cX12_isRiver 1 = .ok (.getfield 45, 3) := by decide +kernel
theorem dX12_isRiver_4 : decode cX12_isRiver 4 = .ok (.iconst 0, 1) := by decide +kernel
theorem dX12_isRiver_5 : decode cX12_isRiver 5 = .ok (.iaload, 1) := by decide +kernel
theorem dX12_isRiver_6 : decode cX12_isRiver 6 = .ok (.ifCond .le 7, 3) := by decide +kernel
theorem dX12_isRiver_9 : decode cX12_isRiver 9 = .ok (.iconst 1, 1) := by decide +kernel
theorem dX12_isRiver_10 : decode cX12_isRiver 10 = .ok (.goto 4, 3) := by decide +kernel
theorem dX12_isRiver_13 : decode cX12_isRiver 13 = .ok (.iconst 0, 1) := by decide +kernel
theorem dX12_isRiver_14 : decode cX12_isRiver 14 = .ok (.ireturn, 1) := by decide +kernel
theorem dX12_isSide_0 : decode cX12_isSide 0 = .ok (.iload_n 0, 1) := by decide +kernel
theorem dX12_isSide_1 : decode cX12_isSide 1 = .ok (.ifCond .eq 8, 3) := by decide +kernel
theorem dX12_isSide_4 : decode cX12_isSide 4 = .ok (.iload_n 0, 1) := by decide +kernel
theorem dX12_isSide_5 : decode cX12_isSide 5 = .ok (.iconst 1, 1) := by decide +kernel
theorem dX12_isSide_6 : decode cX12_isSide 6 = .ok (.if_icmp .ne 7, 3) := by decide +kernel
theorem dX12_isSide_9 : decode cX12_isSide 9 = .ok (.iconst 1, 1) := by decide +kernel
theorem dX12_isSide_10 : decode cX12_isSide 10 = .ok (.goto 4, 3) := by decide +kernel
theorem dX12_isSide_13 : decode cX12_isSide 13 = .ok (.iconst 0, 1) := by decide +kernel
theorem dX12_isSide_14 : decode cX12_isSide 14 = .ok (.ireturn, 1) := by decide +kernel
theorem dX12_gap_0 : decode cX12_gap 0 = .ok (.aload_n 0, 1) := by decide +kernel
theorem dX12_gap_1 : decode cX12_gap 1 = .ok (.getfield 45, 3) := by decide +kernel
theorem dX12_gap_4 : decode cX12_gap 4 = .ok (.iconst 0, 1) := by decide +kernel
theorem dX12_gap_5 : decode cX12_gap 5 = .ok (.iaload, 1) := by decide +kernel
theorem dX12_gap_6 : decode cX12_gap 6 = .ok (.aload_n 0, 1) := by decide +kernel
theorem dX12_gap_7 : decode cX12_gap 7 = .ok (.getfield 45, 3) := by decide +kernel
theorem dX12_gap_10 : decode cX12_gap 10 = .ok (.bipush 6, 2) := by decide +kernel
theorem dX12_gap_12 : decode cX12_gap 12 = .ok (.iaload, 1) := by decide +kernel
theorem dX12_gap_13 : decode cX12_gap 13 = .ok (.isub, 1) := by decide +kernel
theorem dX12_gap_14 : decode cX12_gap 14 = .ok (.aload_n 0, 1) := by decide +kernel
theorem dX12_gap_15 : decode cX12_gap 15 = .ok (.getfield 45, 3) := by decide +kernel
theorem dX12_gap_18 : decode cX12_gap 18 = .ok (.bipush 7, 2) := by decide +kernel
theorem dX12_gap_20 : decode cX12_gap 20 = .ok (.iaload, 1) := by decide +kernel
theorem dX12_gap_21 : decode cX12_gap 21 = .ok (.isub, 1) := by decide +kernel
theorem dX12_gap_22 : decode cX12_gap 22 = .ok (.ireturn, 1) := by decide +kernel
set_option maxRecDepth 20000 in
theorem ggX12_isMet_X12_gap : GoodIn wsX12_isMet wsX12_gap := goodIn_r _ [5, 6, 7, 8, 9, 10, 11, 12, 13, 14, 15, 16, 17, 18, 19, 20, 21, 22, 23, 24, 25, 26, 27, 28, 29, 30, 31, 32, 33, 34, 35, 36, 37, 38, 39, 40, 41, 42, 43, 44, 45, 46, 47, 48] rfl (by decide +kernel)
set_option maxRecDepth 20000 in
theorem gX12_isMet_X12_gap : GoodIn wsX12_isMet (wsV RX12 314 RX12 yX12_gap wsX12_gap) := goodIn_app (goodIn_of _ (by decide +kernel)) ggX12_isMet_X12_gap
theorem dX12_isMet_0 : decode cX12_isMet 0 = .ok (.aload_n 0, 1) := by decide +kernel
theorem dX12_isMet_1 : decode cX12_isMet 1 = .ok (.invokevirtual 314, 3) := by decide +kernel
theorem dX12_isMet_4 : decode cX12_isMet 4 = .ok (.ifCond .ne 7, 3) := by decide +kernel
theorem dX12_isMet_7 : decode cX12_isMet 7 = .ok (.iconst 1, 1) := by decide +kernel
theorem dX12_isMet_8 : decode cX12_isMet 8 = .ok (.goto 4, 3) := by decide +kernel
theorem dX12_isMet_11 : decode cX12_isMet 11 = .ok (.iconst 0, 1) := by decide +kernel
theorem dX12_isMet_12 : decode cX12_isMet 12 = .ok (.ireturn, 1) := by decide +kernel
theorem dX12_yardOf_0 : decode cX12_yardOf 0 = .ok (.iload_n 2, 1) := by decide +kernel
theorem dX12_yardOf_1 : decode cX12_yardOf 1 = .ok (.ifCond .ge 19, 3) := by decide +kernel
theorem dX12_yardOf_4 : decode cX12_yardOf 4 = .ok (.aload_n 0, 1) := by decide +kernel
theorem dX12_yardOf_5 : decode cX12_yardOf 5 = .ok (.getfield 45, 3) := by decide +kernel
theorem dX12_yardOf_8 : decode cX12_yardOf 8 = .ok (.bipush 8, 2) := by decide +kernel
theorem dX12_yardOf_10 : decode cX12_yardOf 10 = .ok (.iconst 2, 1) := by decide +kernel
theorem dX12_yardOf_11 : decode cX12_yardOf 11 = .ok (.iload_n 1, 1) := by decide +kernel
theorem dX12_yardOf_12 : decode cX12_yardOf 12 = .ok (.imul, 1) := by decide +kernel
theorem dX12_yardOf_13 : decode cX12_yardOf 13 = .ok (.iadd, 1) := by decide +kernel
theorem dX12_yardOf_14 : decode cX12_yardOf 14 = .ok (.iload_n 3, 1) := by decide +kernel
theorem dX12_yardOf_15 : decode cX12_yardOf 15 = .ok (.iadd, 1) := by decide +kernel
theorem dX12_yardOf_16 : decode cX12_yardOf 16 = .ok (.iaload, 1) := by decide +kernel
theorem dX12_yardOf_17 : decode cX12_yardOf 17 = .ok (.goto 27, 3) := by decide +kernel
theorem dX12_yardOf_20 : decode cX12_yardOf 20 = .ok (.aload_n 0, 1) := by decide +kernel
theorem dX12_yardOf_21 : decode cX12_yardOf 21 = .ok (.getfield 45, 3) := by decide +kernel
theorem dX12_yardOf_24 : decode cX12_yardOf 24 = .ok (.iload_n 3, 1) := by decide +kernel
theorem dX12_yardOf_25 : decode cX12_yardOf 25 = .ok (.ifCond .ne 8, 3) := by decide +kernel
theorem dX12_yardOf_28 : decode cX12_yardOf 28 = .ok (.bipush 126, 2) := by decide +kernel
theorem dX12_yardOf_30 : decode cX12_yardOf 30 = .ok (.goto 6, 3) := by decide +kernel
theorem dX12_yardOf_33 : decode cX12_yardOf 33 = .ok (.sipush 206, 3) := by decide +kernel
theorem dX12_yardOf_36 : decode cX12_yardOf 36 = .ok (.bipush 40, 2) := by decide +kernel
theorem dX12_yardOf_38 : decode cX12_yardOf 38 = .ok (.iload_n 1, 1) := by decide +kernel
theorem dX12_yardOf_39 : decode cX12_yardOf 39 = .ok (.imul, 1) := by decide +kernel
theorem dX12_yardOf_40 : decode cX12_yardOf 40 = .ok (.iadd, 1) := by decide +kernel
theorem dX12_yardOf_41 : decode cX12_yardOf 41 = .ok (.iload_n 2, 1) := by decide +kernel
theorem dX12_yardOf_42 : decode cX12_yardOf 42 = .ok (.iadd, 1) := by decide +kernel
theorem dX12_yardOf_43 : decode cX12_yardOf 43 = .ok (.iaload, 1) := by decide +kernel
theorem dX12_yardOf_44 : decode cX12_yardOf 44 = .ok (.ireturn, 1) := by decide +kernel
set_option maxRecDepth 20000 in
theorem ggX12_tipOf_X12_yardOf : GoodIn wsX12_tipOf wsX12_yardOf := goodIn_r _ [6, 1, 7, 8, 9, 10, 11, 12, 13, 14, 15, 16, 17, 18, 19, 20, 21, 22, 23, 24, 25, 26, 27, 28, 29, 30, 31, 32, 33, 34, 35, 36, 37, 38, 39, 40, 41, 42, 43, 44, 45, 46, 47, 48] rfl (by decide +kernel)
set_option maxRecDepth 20000 in
theorem gX12_tipOf_X12_yardOf : GoodIn wsX12_tipOf (wsV RX12 317 RX12 yX12_yardOf wsX12_yardOf) := goodIn_app (goodIn_of _ (by decide +kernel)) ggX12_tipOf_X12_yardOf
theorem dX12_tipOf_0 : decode cX12_tipOf 0 = .ok (.aload_n 0, 1) := by decide +kernel
theorem dX12_tipOf_1 : decode cX12_tipOf 1 = .ok (.iload_n 1, 1) := by decide +kernel
theorem dX12_tipOf_2 : decode cX12_tipOf 2 = .ok (.aload_n 0, 1) := by decide +kernel
theorem dX12_tipOf_3 : decode cX12_tipOf 3 = .ok (.getfield 45, 3) := by decide +kernel
theorem dX12_tipOf_6 : decode cX12_tipOf 6 = .ok (.bipush 6, 2) := by decide +kernel
theorem dX12_tipOf_8 : decode cX12_tipOf 8 = .ok (.iload_n 1, 1) := by decide +kernel
theorem dX12_tipOf_9 : decode cX12_tipOf 9 = .ok (.iadd, 1) := by decide +kernel
theorem dX12_tipOf_10 : decode cX12_tipOf 10 = .ok (.iaload, 1) := by decide +kernel
theorem dX12_tipOf_11 : decode cX12_tipOf 11 = .ok (.iconst 1, 1) := by decide +kernel
theorem dX12_tipOf_12 : decode cX12_tipOf 12 = .ok (.isub, 1) := by decide +kernel
theorem dX12_tipOf_13 : decode cX12_tipOf 13 = .ok (.iload_n 2, 1) := by decide +kernel
theorem dX12_tipOf_14 : decode cX12_tipOf 14 = .ok (.invokevirtual 317, 3) := by decide +kernel
theorem dX12_tipOf_17 : decode cX12_tipOf 17 = .ok (.ireturn, 1) := by decide +kernel
set_option maxRecDepth 20000 in
theorem ggX12_moreOf_X12_yardOf : GoodIn wsX12_moreOf wsX12_yardOf := goodIn_r _ [5, 6, 7, 8, 9, 10, 11, 12, 13, 14, 15, 16, 17, 18, 19, 20, 21, 22, 23, 24, 25, 26, 27, 28, 29, 30, 31, 32, 33, 34, 35, 36, 37, 38, 39, 40, 41, 42, 43, 44, 45, 46, 47, 48] rfl (by decide +kernel)
set_option maxRecDepth 20000 in
theorem gX12_moreOf_X12_yardOf : GoodIn wsX12_moreOf (wsV RX12 317 RX12 yX12_yardOf wsX12_yardOf) := goodIn_app (goodIn_of _ (by decide +kernel)) ggX12_moreOf_X12_yardOf
theorem dX12_moreOf_0 : decode cX12_moreOf 0 = .ok (.aload_n 0, 1) := by decide +kernel
theorem dX12_moreOf_1 : decode cX12_moreOf 1 = .ok (.iload_n 1, 1) := by decide +kernel
theorem dX12_moreOf_2 : decode cX12_moreOf 2 = .ok (.iload_n 2, 1) := by decide +kernel
theorem dX12_moreOf_3 : decode cX12_moreOf 3 = .ok (.iload_n 3, 1) := by decide +kernel
theorem dX12_moreOf_4 : decode cX12_moreOf 4 = .ok (.invokevirtual 317, 3) := by decide +kernel
theorem dX12_moreOf_7 : decode cX12_moreOf 7 = .ok (.aload_n 0, 1) := by decide +kernel
theorem dX12_moreOf_8 : decode cX12_moreOf 8 = .ok (.iload_n 1, 1) := by decide +kernel
theorem dX12_moreOf_9 : decode cX12_moreOf 9 = .ok (.iload_n 2, 1) := by decide +kernel
theorem dX12_moreOf_10 : decode cX12_moreOf 10 = .ok (.iconst 1, 1) := by decide +kernel
theorem dX12_moreOf_11 : decode cX12_moreOf 11 = .ok (.isub, 1) := by decide +kernel
theorem dX12_moreOf_12 : decode cX12_moreOf 12 = .ok (.iload_n 3, 1) := by decide +kernel
theorem dX12_moreOf_13 : decode cX12_moreOf 13 = .ok (.invokevirtual 317, 3) := by decide +kernel
theorem dX12_moreOf_16 : decode cX12_moreOf 16 = .ok (.isub, 1) := by decide +kernel
theorem dX12_moreOf_17 : decode cX12_moreOf 17 = .ok (.ireturn, 1) := by decide +kernel
set_option maxRecDepth 20000 in
theorem ggX12_crooked_X12_moreOf : GoodIn wsX12_crooked wsX12_moreOf := goodIn_r _ [6, 7, 8, 9, 5, 10, 1, 14, 15, 16, 17, 18, 19, 20, 21, 22, 23, 24, 25, 26, 27, 28, 29, 30, 31, 32, 33, 34, 35, 36, 37, 38, 39, 40, 41, 42, 43, 44, 45, 46, 47, 48, 49, 50, 51, 52, 53, 54, 55] rfl (by decide +kernel)
set_option maxRecDepth 20000 in
theorem gX12_crooked_X12_moreOf : GoodIn wsX12_crooked (wsV RX12 321 RX12 yX12_moreOf wsX12_moreOf) := goodIn_app (goodIn_of _ (by decide +kernel)) ggX12_crooked_X12_moreOf
set_option maxRecDepth 20000 in
theorem ggX12_crooked_X12_plain : GoodIn wsX12_crooked wsX12_plain := goodIn_r _ [13] rfl (by decide +kernel)
set_option maxRecDepth 20000 in
theorem gX12_crooked_X12_plain : GoodIn wsX12_crooked (va_wsS RX12 324 yX12_plain wsX12_plain) := goodIn_app (goodIn_of _ (by decide +kernel)) ggX12_crooked_X12_plain
theorem dX12_crooked_0 : decode cX12_crooked 0 = .ok (.iconst 0, 1) := by decide +kernel
theorem dX12_crooked_1 : decode cX12_crooked 1 = .ok (.istore_n 2, 1) := by decide +kernel
theorem dX12_crooked_2 : decode cX12_crooked 2 = .ok (.iconst 0, 1) := by decide +kernel
theorem dX12_crooked_3 : decode cX12_crooked 3 = .ok (.istore_n 3, 1) := by decide +kernel
theorem dX12_crooked_4 : decode cX12_crooked 4 = .ok (.iload_n 3, 1) := by decide +kernel
theorem dX12_crooked_5 : decode cX12_crooked 5 = .ok (.aload_n 0, 1) := by decide +kernel
theorem dX12_crooked_6 : decode cX12_crooked 6 = .ok (.getfield 45, 3) := by decide +kernel
theorem dX12_crooked_9 : decode cX12_crooked 9 = .ok (.bipush 6, 2) := by decide +kernel
theorem dX12_crooked_11 : decode cX12_crooked 11 = .ok (.iload_n 1, 1) := by decide +kernel
theorem dX12_crooked_12 : decode cX12_crooked 12 = .ok (.iadd, 1) := by decide +kernel
theorem dX12_crooked_13 : decode cX12_crooked 13 = .ok (.iaload, 1) := by decide +kernel
theorem dX12_crooked_14 : decode cX12_crooked 14 = .ok (.if_icmp .ge 33, 3) := by decide +kernel
theorem dX12_crooked_17 : decode cX12_crooked 17 = .ok (.iload_n 2, 1) := by decide +kernel
theorem dX12_crooked_18 : decode cX12_crooked 18 = .ok (.aload_n 0, 1) := by decide +kernel
theorem dX12_crooked_19 : decode cX12_crooked 19 = .ok (.iload_n 1, 1) := by decide +kernel
theorem dX12_crooked_20 : decode cX12_crooked 20 = .ok (.iload_n 3, 1) := by decide +kernel
theorem dX12_crooked_21 : decode cX12_crooked 21 = .ok (.iconst 0, 1) := by decide +kernel
theorem dX12_crooked_22 : decode cX12_crooked 22 = .ok (.invokevirtual 321, 3) := by decide +kernel
theorem dX12_crooked_25 : decode cX12_crooked 25 = .ok (.invokestatic 324, 3) := by decide +kernel
theorem dX12_crooked_28 : decode cX12_crooked 28 = .ok (.aload_n 0, 1) := by decide +kernel
theorem dX12_crooked_29 : decode cX12_crooked 29 = .ok (.iload_n 1, 1) := by decide +kernel
theorem dX12_crooked_30 : decode cX12_crooked 30 = .ok (.iload_n 3, 1) := by decide +kernel
theorem dX12_crooked_31 : decode cX12_crooked 31 = .ok (.iconst 1, 1) := by decide +kernel
theorem dX12_crooked_32 : decode cX12_crooked 32 = .ok (.invokevirtual 321, 3) := by decide +kernel
theorem dX12_crooked_35 : decode cX12_crooked 35 = .ok (.invokestatic 324, 3) := by decide +kernel
theorem dX12_crooked_38 : decode cX12_crooked 38 = .ok (.iadd, 1) := by decide +kernel
theorem dX12_crooked_39 : decode cX12_crooked 39 = .ok (.iadd, 1) := by decide +kernel
theorem dX12_crooked_40 : decode cX12_crooked 40 = .ok (.istore_n 2, 1) := by decide +kernel
theorem dX12_crooked_41 : decode cX12_crooked 41 = .ok (.iinc 3 1, 3) := by decide +kernel
theorem dX12_crooked_44 : decode cX12_crooked 44 = .ok (.goto (-40), 3) := by decide +kernel
theorem dX12_crooked_47 : decode cX12_crooked 47 = .ok (.iload_n 2, 1) := by decide +kernel
theorem dX12_crooked_48 : decode cX12_crooked 48 = .ok (.ireturn, 1) := by decide +kernel
theorem dX12_errsAsTold_0 : decode cX12_errsAsTold 0 = .ok (.iconst 0, 1) := by decide +kernel
theorem dX12_errsAsTold_1 : decode cX12_errsAsTold 1 = .ok (.istore_n 1, 1) := by decide +kernel
theorem dX12_errsAsTold_2 : decode cX12_errsAsTold 2 = .ok (.iload_n 1, 1) := by decide +kernel
theorem dX12_errsAsTold_3 : decode cX12_errsAsTold 3 = .ok (.iconst 2, 1) := by decide +kernel
theorem dX12_errsAsTold_4 : decode cX12_errsAsTold 4 = .ok (.if_icmp .ge 37, 3) := by decide +kernel
theorem dX12_errsAsTold_7 : decode cX12_errsAsTold 7 = .ok (.aload_n 0, 1) := by decide +kernel
theorem dX12_errsAsTold_8 : decode cX12_errsAsTold 8 = .ok (.getfield 48, 3) := by decide +kernel
theorem dX12_errsAsTold_11 : decode cX12_errsAsTold 11 = .ok (.iload_n 1, 1) := by decide +kernel
theorem dX12_errsAsTold_12 : decode cX12_errsAsTold 12 = .ok (.aload_n 0, 1) := by decide +kernel
theorem dX12_errsAsTold_13 : decode cX12_errsAsTold 13 = .ok (.getfield 45, 3) := by decide +kernel
theorem dX12_errsAsTold_16 : decode cX12_errsAsTold 16 = .ok (.bipush 30, 2) := by decide +kernel
theorem dX12_errsAsTold_18 : decode cX12_errsAsTold 18 = .ok (.bipush 8, 2) := by decide +kernel
theorem dX12_errsAsTold_20 : decode cX12_errsAsTold 20 = .ok (.iload_n 1, 1) := by decide +kernel
theorem dX12_errsAsTold_21 : decode cX12_errsAsTold 21 = .ok (.imul, 1) := by decide +kernel
theorem dX12_errsAsTold_22 : decode cX12_errsAsTold 22 = .ok (.iadd, 1) := by decide +kernel
theorem dX12_errsAsTold_23 : decode cX12_errsAsTold 23 = .ok (.aload_n 0, 1) := by decide +kernel
theorem dX12_errsAsTold_24 : decode cX12_errsAsTold 24 = .ok (.getfield 45, 3) := by decide +kernel
theorem dX12_errsAsTold_27 : decode cX12_errsAsTold 27 = .ok (.iconst 1, 1) := by decide +kernel
theorem dX12_errsAsTold_28 : decode cX12_errsAsTold 28 = .ok (.iaload, 1) := by decide +kernel
theorem dX12_errsAsTold_29 : decode cX12_errsAsTold 29 = .ok (.bipush 8, 2) := by decide +kernel
theorem dX12_errsAsTold_31 : decode cX12_errsAsTold 31 = .ok (.irem, 1) := by decide +kernel
theorem dX12_errsAsTold_32 : decode cX12_errsAsTold 32 = .ok (.iadd, 1) := by decide +kernel
theorem dX12_errsAsTold_33 : decode cX12_errsAsTold 33 = .ok (.iaload, 1) := by decide +kernel
theorem dX12_errsAsTold_34 : decode cX12_errsAsTold 34 = .ok (.iastore, 1) := by decide +kernel
theorem dX12_errsAsTold_35 : decode cX12_errsAsTold 35 = .ok (.iinc 1 1, 3) := by decide +kernel
theorem dX12_errsAsTold_38 : decode cX12_errsAsTold 38 = .ok (.goto (-36), 3) := by decide +kernel
theorem dX12_errsAsTold_41 : decode cX12_errsAsTold 41 = .ok (.return_, 1) := by decide +kernel
set_option maxRecDepth 20000 in
theorem ggX12_seen_X12_gap : GoodIn wsX12_seen wsX12_gap := goodIn_r _ [7, 2, 16, 17, 18, 19, 20, 21, 22, 23, 24, 25, 26, 27, 28, 29, 30, 31, 32, 33, 34, 35, 36, 37, 38, 39, 40, 41, 42, 43, 44, 45, 46, 47, 48, 49, 50, 51, 52, 53, 54, 55, 56, 57] rfl (by decide +kernel)
set_option maxRecDepth 20000 in
theorem gX12_seen_X12_gap : GoodIn wsX12_seen (wsV RX12 314 RX12 yX12_gap wsX12_gap) := goodIn_app (goodIn_of _ (by decide +kernel)) ggX12_seen_X12_gap
set_option maxRecDepth 20000 in
theorem ggX12_seen_X12_tipOf : GoodIn wsX12_seen wsX12_tipOf := goodIn_r _ [11, 2, 12, 13, 14, 6, 15, 16, 17, 18, 19, 20, 21, 22, 23, 24, 25, 26, 27, 28, 29, 30, 31, 32, 33, 34, 35, 36, 37, 38, 39, 40, 41, 42, 43, 44, 45, 46, 47, 48, 49, 50, 51, 52, 53, 54, 55, 56, 57] rfl (by decide +kernel)
set_option maxRecDepth 20000 in
theorem gX12_seen_X12_tipOf : GoodIn wsX12_seen (wsV RX12 327 RX12 yX12_tipOf wsX12_tipOf) := goodIn_app (goodIn_of _ (by decide +kernel)) ggX12_seen_X12_tipOf
theorem dX12_seen_0 : decode cX12_seen 0 = .ok (.aload_n 0, 1) := by decide +kernel
theorem dX12_seen_1 : decode cX12_seen 1 = .ok (.getfield 48, 3) := by decide +kernel
theorem dX12_seen_4 : decode cX12_seen 4 = .ok (.iload_n 1, 1) := by decide +kernel
theorem dX12_seen_5 : decode cX12_seen 5 = .ok (.iaload, 1) := by decide +kernel
theorem dX12_seen_6 : decode cX12_seen 6 = .ok (.aload_n 0, 1) := by decide +kernel
theorem dX12_seen_7 : decode cX12_seen 7 = .ok (.getfield 45, 3) := by decide +kernel
theorem dX12_seen_10 : decode cX12_seen 10 = .ok (.bipush 12, 2) := by decide +kernel
theorem dX12_seen_12 : decode cX12_seen 12 = .ok (.iload_n 1, 1) := by decide +kernel
theorem dX12_seen_13 : decode cX12_seen 13 = .ok (.iadd, 1) := by decide +kernel
theorem dX12_seen_14 : decode cX12_seen 14 = .ok (.iaload, 1) := by decide +kernel
theorem dX12_seen_15 : decode cX12_seen 15 = .ok (.imul, 1) := by decide +kernel
theorem dX12_seen_16 : decode cX12_seen 16 = .ok (.aload_n 0, 1) := by decide +kernel
theorem dX12_seen_17 : decode cX12_seen 17 = .ok (.invokevirtual 314, 3) := by decide +kernel
theorem dX12_seen_20 : decode cX12_seen 20 = .ok (.imul, 1) := by decide +kernel
theorem dX12_seen_21 : decode cX12_seen 21 = .ok (.bipush 90, 2) := by decide +kernel
theorem dX12_seen_23 : decode cX12_seen 23 = .ok (.idiv, 1) := by decide +kernel
theorem dX12_seen_24 : decode cX12_seen 24 = .ok (.istore_n 3, 1) := by decide +kernel
theorem dX12_seen_25 : decode cX12_seen 25 = .ok (.aload_n 0, 1) := by decide +kernel
theorem dX12_seen_26 : decode cX12_seen 26 = .ok (.iconst 1, 1) := by decide +kernel
theorem dX12_seen_27 : decode cX12_seen 27 = .ok (.iload_n 1, 1) := by decide +kernel
theorem dX12_seen_28 : decode cX12_seen 28 = .ok (.isub, 1) := by decide +kernel
theorem dX12_seen_29 : decode cX12_seen 29 = .ok (.iload_n 2, 1) := by decide +kernel
theorem dX12_seen_30 : decode cX12_seen 30 = .ok (.invokevirtual 327, 3) := by decide +kernel
theorem dX12_seen_33 : decode cX12_seen 33 = .ok (.iload_n 2, 1) := by decide +kernel
theorem dX12_seen_34 : decode cX12_seen 34 = .ok (.ifCond .ne 7, 3) := by decide +kernel
theorem dX12_seen_37 : decode cX12_seen 37 = .ok (.iload_n 3, 1) := by decide +kernel
theorem dX12_seen_38 : decode cX12_seen 38 = .ok (.goto 5, 3) := by decide +kernel
theorem dX12_seen_41 : decode cX12_seen 41 = .ok (.iload_n 3, 1) := by decide +kernel
theorem dX12_seen_42 : decode cX12_seen 42 = .ok (.ineg, 1) := by decide +kernel
theorem dX12_seen_43 : decode cX12_seen 43 = .ok (.iadd, 1) := by decide +kernel
theorem dX12_seen_44 : decode cX12_seen 44 = .ok (.ireturn, 1) := by decide +kernel
set_option maxRecDepth 20000 in
theorem ggX12_yard_X12_isRiver : GoodIn wsX12_yard wsX12_isRiver := goodIn_r _ [8, 1, 23, 24, 25, 26, 27, 28, 29, 30, 31, 32, 33, 34, 35, 36, 37, 38, 39, 40, 41, 42, 43, 44, 45, 46, 47, 48, 49, 50, 51, 52, 53, 54, 55, 56, 57, 58, 59, 60, 61, 62, 63, 64] rfl (by decide +kernel)
set_option maxRecDepth 20000 in
theorem gX12_yard_X12_isRiver : GoodIn wsX12_yard (wsV RX12 331 RX12 yX12_isRiver wsX12_isRiver) := goodIn_app (goodIn_of _ (by decide +kernel)) ggX12_yard_X12_isRiver
set_option maxRecDepth 20000 in
theorem ggX12_yard_X12_isSide : GoodIn wsX12_yard wsX12_isSide := goodIn_r _ [11] rfl (by decide +kernel)
set_option maxRecDepth 20000 in
theorem gX12_yard_X12_isSide : GoodIn wsX12_yard (va_wsS RX12 334 yX12_isSide wsX12_isSide) := goodIn_app (goodIn_of _ (by decide +kernel)) ggX12_yard_X12_isSide
set_option maxRecDepth 20000 in
theorem ggX12_yard_X12_in : GoodIn wsX12_yard wsX12_in := goodIn_r _ [14] rfl (by decide +kernel)
set_option maxRecDepth 20000 in
theorem gX12_yard_X12_in : GoodIn wsX12_yard (va_wsS RX12 131 yX12_in wsX12_in) := goodIn_app (goodIn_of _ (by decide +kernel)) ggX12_yard_X12_in
set_option maxRecDepth 20000 in
theorem ggX12_yard_X12_yardOf : GoodIn wsX12_yard wsX12_yardOf := goodIn_r _ [18, 1, 23, 24, 25, 26, 27, 28, 29, 30, 31, 32, 33, 34, 35, 36, 37, 38, 39, 40, 41, 42, 43, 44, 45, 46, 47, 48, 49, 50, 51, 52, 53, 54, 55, 56, 57, 58, 59, 60, 61, 62, 63, 64] rfl (by decide +kernel)
set_option maxRecDepth 20000 in
theorem gX12_yard_X12_yardOf : GoodIn wsX12_yard (wsV RX12 317 RX12 yX12_yardOf wsX12_yardOf) := goodIn_app (goodIn_of _ (by decide +kernel)) ggX12_yard_X12_yardOf
set_option maxRecDepth 20000 in
theorem ggX12_yard_X12_moreOf : GoodIn wsX12_yard wsX12_moreOf := goodIn_r _ [22, 15, 16, 17, 7, 18, 1, 23, 24, 25, 26, 27, 28, 29, 30, 31, 32, 33, 34, 35, 36, 37, 38, 39, 40, 41, 42, 43, 44, 45, 46, 47, 48, 49, 50, 51, 52, 53, 54, 55, 56, 57, 58, 59, 60, 61, 62, 63, 64] rfl (by decide +kernel)
set_option maxRecDepth 20000 in
theorem gX12_yard_X12_moreOf : GoodIn wsX12_yard (wsV RX12 321 RX12 yX12_moreOf wsX12_moreOf) := goodIn_app (goodIn_of _ (by decide +kernel)) ggX12_yard_X12_moreOf
theorem dX12_yard_0 : decode cX12_yard 0 = .ok (.aload_n 0, 1) := by decide +kernel
theorem dX12_yard_1 : decode cX12_yard 1 = .ok (.invokevirtual 331, 3) := by decide +kernel
theorem dX12_yard_4 : decode cX12_yard 4 = .ok (.ifCond .eq 39, 3) := by decide +kernel
theorem dX12_yard_7 : decode cX12_yard 7 = .ok (.iload_n 1, 1) := by decide +kernel
theorem dX12_yard_8 : decode cX12_yard 8 = .ok (.invokestatic 334, 3) := by decide +kernel
theorem dX12_yard_11 : decode cX12_yard 11 = .ok (.ifCond .eq 32, 3) := by decide +kernel
theorem dX12_yard_14 : decode cX12_yard 14 = .ok (.iload_n 2, 1) := by decide +kernel
theorem dX12_yard_15 : decode cX12_yard 15 = .ok (.ifCond .lt 28, 3) := by decide +kernel
theorem dX12_yard_18 : decode cX12_yard 18 = .ok (.iload_n 2, 1) := by decide +kernel
theorem dX12_yard_19 : decode cX12_yard 19 = .ok (.aload_n 0, 1) := by decide +kernel
theorem dX12_yard_20 : decode cX12_yard 20 = .ok (.getfield 45, 3) := by decide +kernel
theorem dX12_yard_23 : decode cX12_yard 23 = .ok (.bipush 6, 2) := by decide +kernel
theorem dX12_yard_25 : decode cX12_yard 25 = .ok (.iload_n 1, 1) := by decide +kernel
theorem dX12_yard_26 : decode cX12_yard 26 = .ok (.iadd, 1) := by decide +kernel
theorem dX12_yard_27 : decode cX12_yard 27 = .ok (.iaload, 1) := by decide +kernel
theorem dX12_yard_28 : decode cX12_yard 28 = .ok (.if_icmp .ge 15, 3) := by decide +kernel
theorem dX12_yard_31 : decode cX12_yard 31 = .ok (.iload_n 3, 1) := by decide +kernel
theorem dX12_yard_32 : decode cX12_yard 32 = .ok (.i2l, 1) := by decide +kernel
theorem dX12_yard_33 : decode cX12_yard 33 = .ok (.lconst 0, 1) := by decide +kernel
theorem dX12_yard_34 : decode cX12_yard 34 = .ok (.ldc2_w 337, 3) := by decide +kernel
theorem dX12_yard_37 : decode cX12_yard 37 = .ok (.invokestatic 131, 3) := by decide +kernel
theorem dX12_yard_40 : decode cX12_yard 40 = .ok (.ifCond .ne 7, 3) := by decide +kernel
theorem dX12_yard_43 : decode cX12_yard 43 = .ok (.ldc_w 339, 3) := by decide +kernel
theorem dX12_yard_46 : decode cX12_yard 46 = .ok (.ireturn, 1) := by decide +kernel
theorem dX12_yard_47 : decode cX12_yard 47 = .ok (.iload_n 3, 1) := by decide +kernel
theorem dX12_yard_48 : decode cX12_yard 48 = .ok (.iconst 2, 1) := by decide +kernel
theorem dX12_yard_49 : decode cX12_yard 49 = .ok (.if_icmp .ge 13, 3) := by decide +kernel
theorem dX12_yard_52 : decode cX12_yard 52 = .ok (.aload_n 0, 1) := by decide +kernel
theorem dX12_yard_53 : decode cX12_yard 53 = .ok (.iload_n 1, 1) := by decide +kernel
theorem dX12_yard_54 : decode cX12_yard 54 = .ok (.iload_n 2, 1) := by decide +kernel
theorem dX12_yard_55 : decode cX12_yard 55 = .ok (.iload_n 3, 1) := by decide +kernel
theorem dX12_yard_56 : decode cX12_yard 56 = .ok (.invokevirtual 317, 3) := by decide +kernel
theorem dX12_yard_59 : decode cX12_yard 59 = .ok (.goto 12, 3) := by decide +kernel
theorem dX12_yard_62 : decode cX12_yard 62 = .ok (.aload_n 0, 1) := by decide +kernel
theorem dX12_yard_63 : decode cX12_yard 63 = .ok (.iload_n 1, 1) := by decide +kernel
theorem dX12_yard_64 : decode cX12_yard 64 = .ok (.iload_n 2, 1) := by decide +kernel
theorem dX12_yard_65 : decode cX12_yard 65 = .ok (.iload_n 3, 1) := by decide +kernel
theorem dX12_yard_66 : decode cX12_yard 66 = .ok (.iconst 2, 1) := by decide +kernel
theorem dX12_yard_67 : decode cX12_yard 67 = .ok (.isub, 1) := by decide +kernel
theorem dX12_yard_68 : decode cX12_yard 68 = .ok (.invokevirtual 321, 3) := by decide +kernel
theorem dX12_yard_71 : decode cX12_yard 71 = .ok (.ireturn, 1) := by decide +kernel
set_option maxRecDepth 20000 in
theorem ggX12_tip_X12_isRiver : GoodIn wsX12_tip wsX12_isRiver := goodIn_r _ [8, 3, 47, 48, 49, 50, 51, 52, 53, 54, 55, 56, 57, 58, 59, 60, 61, 62, 63, 64, 65, 66, 67, 68, 69, 70, 71, 72, 73, 74, 75, 76, 77, 78, 79, 80, 81, 82, 83, 84, 85, 86, 87, 88] rfl (by decide +kernel)
set_option maxRecDepth 20000 in
theorem gX12_tip_X12_isRiver : GoodIn wsX12_tip (wsV RX12 331 RX12 yX12_isRiver wsX12_isRiver) := goodIn_app (goodIn_of _ (by decide +kernel)) ggX12_tip_X12_isRiver
set_option maxRecDepth 20000 in
theorem ggX12_tip_X12_isSide : GoodIn wsX12_tip wsX12_isSide := goodIn_r _ [11] rfl (by decide +kernel)
set_option maxRecDepth 20000 in
theorem gX12_tip_X12_isSide : GoodIn wsX12_tip (va_wsS RX12 334 yX12_isSide wsX12_isSide) := goodIn_app (goodIn_of _ (by decide +kernel)) ggX12_tip_X12_isSide
set_option maxRecDepth 20000 in
theorem ggX12_tip_X12_in : GoodIn wsX12_tip wsX12_in := goodIn_r _ [14] rfl (by decide +kernel)
set_option maxRecDepth 20000 in
theorem gX12_tip_X12_in : GoodIn wsX12_tip (va_wsS RX12 131 yX12_in wsX12_in) := goodIn_app (goodIn_of _ (by decide +kernel)) ggX12_tip_X12_in
set_option maxRecDepth 20000 in
theorem ggX12_tip_X12_tipOf : GoodIn wsX12_tip wsX12_tipOf := goodIn_r _ [18, 3, 19, 20, 21, 7, 22, 47, 48, 49, 50, 51, 52, 53, 54, 55, 56, 57, 58, 59, 60, 61, 62, 63, 64, 65, 66, 67, 68, 69, 70, 71, 72, 73, 74, 75, 76, 77, 78, 79, 80, 81, 82, 83, 84, 85, 86, 87, 88] rfl (by decide +kernel)
set_option maxRecDepth 20000 in
theorem gX12_tip_X12_tipOf : GoodIn wsX12_tip (wsV RX12 327 RX12 yX12_tipOf wsX12_tipOf) := goodIn_app (goodIn_of _ (by decide +kernel)) ggX12_tip_X12_tipOf
set_option maxRecDepth 20000 in
theorem ggX12_tip_X12_crooked : GoodIn wsX12_tip wsX12_crooked := goodIn_r _ [26, 3, 27, 28, 29, 7, 30, 19, 20, 21, 22, 31, 32, 33, 47, 48, 49, 50, 51, 52, 53, 54, 55, 56, 57, 58, 59, 60, 61, 62, 63, 64, 65, 66, 67, 68, 69, 70, 71, 72, 73, 74, 75, 76, 77, 78, 79, 80, 81, 82, 83, 84, 85, 86, 87, 88] rfl (by decide +kernel)
set_option maxRecDepth 20000 in
theorem gX12_tip_X12_crooked : GoodIn wsX12_tip (wsV RX12 342 RX12 yX12_crooked wsX12_crooked) := goodIn_app (goodIn_of _ (by decide +kernel)) ggX12_tip_X12_crooked
set_option maxRecDepth 20000 in
theorem ggX12_tip_X12_errsAsTold : GoodIn wsX12_tip wsX12_errsAsTold := goodIn_r _ [37, 38, 3, 47, 48, 49, 50, 51, 52, 53, 54, 55, 56, 57, 58, 59, 60, 61, 62, 63, 64, 65, 66, 67, 68, 69, 70, 71, 72, 73, 74, 75, 76, 77, 78, 79, 80, 81, 82, 83, 84, 85, 86, 87, 88] rfl (by decide +kernel)
set_option maxRecDepth 20000 in
theorem gX12_tip_X12_errsAsTold : GoodIn wsX12_tip (wsV RX12 345 RX12 yX12_errsAsTold wsX12_errsAsTold) := goodIn_app (goodIn_of _ (by decide +kernel)) ggX12_tip_X12_errsAsTold
set_option maxRecDepth 20000 in
theorem ggX12_tip_X12_seen : GoodIn wsX12_tip wsX12_seen := goodIn_r _ [42, 38, 3, 43, 44, 45, 7, 46, 15, 16, 17, 18, 19, 20, 21, 22, 47, 48, 49, 50, 51, 52, 53, 54, 55, 56, 57, 58, 59, 60, 61, 62, 63, 64, 65, 66, 67, 68, 69, 70, 71, 72, 73, 74, 75, 76, 77, 78, 79, 80, 81, 82, 83, 84, 85, 86, 87, 88] rfl (by decide +kernel)
set_option maxRecDepth 20000 in
theorem gX12_tip_X12_seen : GoodIn wsX12_tip (wsV RX12 348 RX12 yX12_seen wsX12_seen) := goodIn_app (goodIn_of _ (by decide +kernel)) ggX12_tip_X12_seen
theorem dX12_tip_0 : decode cX12_tip 0 = .ok (.aload_n 0, 1) := by decide +kernel
theorem dX12_tip_1 : decode cX12_tip 1 = .ok (.invokevirtual 331, 3) := by decide +kernel
theorem dX12_tip_4 : decode cX12_tip 4 = .ok (.ifCond .eq 22, 3) := by decide +kernel
theorem dX12_tip_7 : decode cX12_tip 7 = .ok (.iload_n 1, 1) := by decide +kernel
theorem dX12_tip_8 : decode cX12_tip 8 = .ok (.invokestatic 334, 3) := by decide +kernel
theorem dX12_tip_11 : decode cX12_tip 11 = .ok (.ifCond .eq 15, 3) := by decide +kernel
theorem dX12_tip_14 : decode cX12_tip 14 = .ok (.iload_n 2, 1) := by decide +kernel
theorem dX12_tip_15 : decode cX12_tip 15 = .ok (.i2l, 1) := by decide +kernel
theorem dX12_tip_16 : decode cX12_tip 16 = .ok (.lconst 0, 1) := by decide +kernel
theorem dX12_tip_17 : decode cX12_tip 17 = .ok (.ldc2_w 340, 3) := by decide +kernel
theorem dX12_tip_20 : decode cX12_tip 20 = .ok (.invokestatic 131, 3) := by decide +kernel
theorem dX12_tip_23 : decode cX12_tip 23 = .ok (.ifCond .ne 7, 3) := by decide +kernel
theorem dX12_tip_26 : decode cX12_tip 26 = .ok (.ldc_w 339, 3) := by decide +kernel
theorem dX12_tip_29 : decode cX12_tip 29 = .ok (.ireturn, 1) := by decide +kernel
theorem dX12_tip_30 : decode cX12_tip 30 = .ok (.iload_n 2, 1) := by decide +kernel
theorem dX12_tip_31 : decode cX12_tip 31 = .ok (.ifCond .ne 13, 3) := by decide +kernel
theorem dX12_tip_34 : decode cX12_tip 34 = .ok (.aload_n 0, 1) := by decide +kernel
theorem dX12_tip_35 : decode cX12_tip 35 = .ok (.getfield 45, 3) := by decide +kernel
theorem dX12_tip_38 : decode cX12_tip 38 = .ok (.bipush 6, 2) := by decide +kernel
theorem dX12_tip_40 : decode cX12_tip 40 = .ok (.iload_n 1, 1) := by decide +kernel
theorem dX12_tip_41 : decode cX12_tip 41 = .ok (.iadd, 1) := by decide +kernel
theorem dX12_tip_42 : decode cX12_tip 42 = .ok (.iaload, 1) := by decide +kernel
theorem dX12_tip_43 : decode cX12_tip 43 = .ok (.ireturn, 1) := by decide +kernel
theorem dX12_tip_44 : decode cX12_tip 44 = .ok (.iload_n 2, 1) := by decide +kernel
theorem dX12_tip_45 : decode cX12_tip 45 = .ok (.iconst 3, 1) := by decide +kernel
theorem dX12_tip_46 : decode cX12_tip 46 = .ok (.if_icmp .ge 12, 3) := by decide +kernel
theorem dX12_tip_49 : decode cX12_tip 49 = .ok (.aload_n 0, 1) := by decide +kernel
theorem dX12_tip_50 : decode cX12_tip 50 = .ok (.iload_n 1, 1) := by decide +kernel
theorem dX12_tip_51 : decode cX12_tip 51 = .ok (.iload_n 2, 1) := by decide +kernel
theorem dX12_tip_52 : decode cX12_tip 52 = .ok (.iconst 1, 1) := by decide +kernel
theorem dX12_tip_53 : decode cX12_tip 53 = .ok (.isub, 1) := by decide +kernel
theorem dX12_tip_54 : decode cX12_tip 54 = .ok (.invokevirtual 327, 3) := by decide +kernel
theorem dX12_tip_57 : decode cX12_tip 57 = .ok (.ireturn, 1) := by decide +kernel
theorem dX12_tip_58 : decode cX12_tip 58 = .ok (.iload_n 2, 1) := by decide +kernel
theorem dX12_tip_59 : decode cX12_tip 59 = .ok (.iconst 3, 1) := by decide +kernel
theorem dX12_tip_60 : decode cX12_tip 60 = .ok (.if_icmp .ne 9, 3) := by decide +kernel
theorem dX12_tip_63 : decode cX12_tip 63 = .ok (.aload_n 0, 1) := by decide +kernel
theorem dX12_tip_64 : decode cX12_tip 64 = .ok (.iload_n 1, 1) := by decide +kernel
theorem dX12_tip_65 : decode cX12_tip 65 = .ok (.invokevirtual 342, 3) := by decide +kernel
theorem dX12_tip_68 : decode cX12_tip 68 = .ok (.ireturn, 1) := by decide +kernel
theorem dX12_tip_69 : decode cX12_tip 69 = .ok (.aload_n 0, 1) := by decide +kernel
theorem dX12_tip_70 : decode cX12_tip 70 = .ok (.invokevirtual 345, 3) := by decide +kernel
theorem dX12_tip_73 : decode cX12_tip 73 = .ok (.iload_n 2, 1) := by decide +kernel
theorem dX12_tip_74 : decode cX12_tip 74 = .ok (.bipush 6, 2) := by decide +kernel
theorem dX12_tip_76 : decode cX12_tip 76 = .ok (.if_icmp .ne 15, 3) := by decide +kernel
theorem dX12_tip_79 : decode cX12_tip 79 = .ok (.aload_n 0, 1) := by decide +kernel
theorem dX12_tip_80 : decode cX12_tip 80 = .ok (.getfield 45, 3) := by decide +kernel
theorem dX12_tip_83 : decode cX12_tip 83 = .ok (.bipush 12, 2) := by decide +kernel
theorem dX12_tip_85 : decode cX12_tip 85 = .ok (.iload_n 1, 1) := by decide +kernel
theorem dX12_tip_86 : decode cX12_tip 86 = .ok (.iadd, 1) := by decide +kernel
theorem dX12_tip_87 : decode cX12_tip 87 = .ok (.iaload, 1) := by decide +kernel
theorem dX12_tip_88 : decode cX12_tip 88 = .ok (.goto 11, 3) := by decide +kernel
theorem dX12_tip_91 : decode cX12_tip 91 = .ok (.aload_n 0, 1) := by decide +kernel
theorem dX12_tip_92 : decode cX12_tip 92 = .ok (.iload_n 1, 1) := by decide +kernel
theorem dX12_tip_93 : decode cX12_tip 93 = .ok (.iload_n 2, 1) := by decide +kernel
theorem dX12_tip_94 : decode cX12_tip 94 = .ok (.iconst 4, 1) := by decide +kernel
theorem dX12_tip_95 : decode cX12_tip 95 = .ok (.isub, 1) := by decide +kernel
theorem dX12_tip_96 : decode cX12_tip 96 = .ok (.invokevirtual 348, 3) := by decide +kernel
theorem dX12_tip_99 : decode cX12_tip 99 = .ok (.ireturn, 1) := by decide +kernel
set_option maxRecDepth 20000 in
theorem ggX12_err_X12_isRiver : GoodIn wsX12_err wsX12_isRiver := goodIn_r _ [10, 5, 17, 18, 19, 20, 21, 22, 23, 24, 25, 26, 27, 28, 29, 30, 31, 32, 33, 34, 35, 36, 37, 38, 39, 40, 41, 42, 43, 44, 45, 46, 47, 48, 49, 50, 51, 52, 53, 54, 55, 56, 57, 58] rfl (by decide +kernel)
set_option maxRecDepth 20000 in
theorem gX12_err_X12_isRiver : GoodIn wsX12_err (wsV RX12 331 RX12 yX12_isRiver wsX12_isRiver) := goodIn_app (goodIn_of _ (by decide +kernel)) ggX12_err_X12_isRiver
set_option maxRecDepth 20000 in
theorem ggX12_err_X12_isSide : GoodIn wsX12_err wsX12_isSide := goodIn_r _ [13] rfl (by decide +kernel)
set_option maxRecDepth 20000 in
theorem gX12_err_X12_isSide : GoodIn wsX12_err (va_wsS RX12 334 yX12_isSide wsX12_isSide) := goodIn_app (goodIn_of _ (by decide +kernel)) ggX12_err_X12_isSide
set_option maxRecDepth 20000 in
theorem ggX12_err_X12_in : GoodIn wsX12_err wsX12_in := goodIn_r _ [16] rfl (by decide +kernel)
set_option maxRecDepth 20000 in
theorem gX12_err_X12_in : GoodIn wsX12_err (va_wsS RX12 131 yX12_in wsX12_in) := goodIn_app (goodIn_of _ (by decide +kernel)) ggX12_err_X12_in
theorem dX12_err_0 : decode cX12_err 0 = .ok (.aload_n 0, 1) := by decide +kernel
theorem dX12_err_1 : decode cX12_err 1 = .ok (.invokevirtual 331, 3) := by decide +kernel
theorem dX12_err_4 : decode cX12_err 4 = .ok (.ifCond .eq 36, 3) := by decide +kernel
theorem dX12_err_7 : decode cX12_err 7 = .ok (.iload_n 1, 1) := by decide +kernel
theorem dX12_err_8 : decode cX12_err 8 = .ok (.invokestatic 334, 3) := by decide +kernel
theorem dX12_err_11 : decode cX12_err 11 = .ok (.ifCond .eq 29, 3) := by decide +kernel
theorem dX12_err_14 : decode cX12_err 14 = .ok (.iload_n 2, 1) := by decide +kernel
theorem dX12_err_15 : decode cX12_err 15 = .ok (.i2l, 1) := by decide +kernel
theorem dX12_err_16 : decode cX12_err 16 = .ok (.lconst 0, 1) := by decide +kernel
theorem dX12_err_17 : decode cX12_err 17 = .ok (.ldc2_w 351, 3) := by decide +kernel
theorem dX12_err_20 : decode cX12_err 20 = .ok (.invokestatic 131, 3) := by decide +kernel
theorem dX12_err_23 : decode cX12_err 23 = .ok (.ifCond .eq 17, 3) := by decide +kernel
theorem dX12_err_26 : decode cX12_err 26 = .ok (.iload_n 3, 1) := by decide +kernel
theorem dX12_err_27 : decode cX12_err 27 = .ok (.i2l, 1) := by decide +kernel
theorem dX12_err_28 : decode cX12_err 28 = .ok (.ldc2_w 353, 3) := by decide +kernel
theorem dX12_err_31 : decode cX12_err 31 = .ok (.ldc2_w 355, 3) := by decide +kernel
theorem dX12_err_34 : decode cX12_err 34 = .ok (.invokestatic 131, 3) := by decide +kernel
theorem dX12_err_37 : decode cX12_err 37 = .ok (.ifCond .ne 7, 3) := by decide +kernel
theorem dX12_err_40 : decode cX12_err 40 = .ok (.ldc_w 339, 3) := by decide +kernel
theorem dX12_err_43 : decode cX12_err 43 = .ok (.ireturn, 1) := by decide +kernel
theorem dX12_err_44 : decode cX12_err 44 = .ok (.aload_n 0, 1) := by decide +kernel
theorem dX12_err_45 : decode cX12_err 45 = .ok (.getfield 45, 3) := by decide +kernel
theorem dX12_err_48 : decode cX12_err 48 = .ok (.bipush 30, 2) := by decide +kernel
theorem dX12_err_50 : decode cX12_err 50 = .ok (.bipush 8, 2) := by decide +kernel
theorem dX12_err_52 : decode cX12_err 52 = .ok (.iload_n 1, 1) := by decide +kernel
theorem dX12_err_53 : decode cX12_err 53 = .ok (.imul, 1) := by decide +kernel
theorem dX12_err_54 : decode cX12_err 54 = .ok (.iadd, 1) := by decide +kernel
theorem dX12_err_55 : decode cX12_err 55 = .ok (.iload_n 2, 1) := by decide +kernel
theorem dX12_err_56 : decode cX12_err 56 = .ok (.iadd, 1) := by decide +kernel
theorem dX12_err_57 : decode cX12_err 57 = .ok (.iaload, 1) := by decide +kernel
theorem dX12_err_58 : decode cX12_err 58 = .ok (.istore 4, 2) := by decide +kernel
theorem dX12_err_60 : decode cX12_err 60 = .ok (.aload_n 0, 1) := by decide +kernel
theorem dX12_err_61 : decode cX12_err 61 = .ok (.getfield 45, 3) := by decide +kernel
theorem dX12_err_64 : decode cX12_err 64 = .ok (.bipush 30, 2) := by decide +kernel
theorem dX12_err_66 : decode cX12_err 66 = .ok (.bipush 8, 2) := by decide +kernel
theorem dX12_err_68 : decode cX12_err 68 = .ok (.iload_n 1, 1) := by decide +kernel
theorem dX12_err_69 : decode cX12_err 69 = .ok (.imul, 1) := by decide +kernel
theorem dX12_err_70 : decode cX12_err 70 = .ok (.iadd, 1) := by decide +kernel
theorem dX12_err_71 : decode cX12_err 71 = .ok (.iload_n 2, 1) := by decide +kernel
theorem dX12_err_72 : decode cX12_err 72 = .ok (.iadd, 1) := by decide +kernel
theorem dX12_err_73 : decode cX12_err 73 = .ok (.iload_n 3, 1) := by decide +kernel
theorem dX12_err_74 : decode cX12_err 74 = .ok (.iastore, 1) := by decide +kernel
theorem dX12_err_75 : decode cX12_err 75 = .ok (.iload 4, 2) := by decide +kernel
theorem dX12_err_77 : decode cX12_err 77 = .ok (.ireturn, 1) := by decide +kernel
set_option maxRecDepth 20000 in
theorem ggX12_builds_X12_tipOf : GoodIn wsX12_builds wsX12_tipOf := goodIn_r _ [6, 1, 7, 8, 9, 5, 10, 11, 12, 13, 14, 15, 16, 17, 18, 19, 20, 21, 22, 23, 24, 25, 26, 27, 28, 29, 30, 31, 32, 33, 34, 35, 36, 37, 38, 39, 40, 41, 42, 43, 44, 45, 46, 47, 48, 49, 50, 51, 52] rfl (by decide +kernel)
set_option maxRecDepth 20000 in
theorem gX12_builds_X12_tipOf : GoodIn wsX12_builds (wsV RX12 327 RX12 yX12_tipOf wsX12_tipOf) := goodIn_app (goodIn_of _ (by decide +kernel)) ggX12_builds_X12_tipOf
theorem dX12_builds_0 : decode cX12_builds 0 = .ok (.aload_n 0, 1) := by decide +kernel
theorem dX12_builds_1 : decode cX12_builds 1 = .ok (.getfield 45, 3) := by decide +kernel
theorem dX12_builds_4 : decode cX12_builds 4 = .ok (.bipush 6, 2) := by decide +kernel
theorem dX12_builds_6 : decode cX12_builds 6 = .ok (.iload_n 1, 1) := by decide +kernel
theorem dX12_builds_7 : decode cX12_builds 7 = .ok (.iadd, 1) := by decide +kernel
theorem dX12_builds_8 : decode cX12_builds 8 = .ok (.iaload, 1) := by decide +kernel
theorem dX12_builds_9 : decode cX12_builds 9 = .ok (.istore 4, 2) := by decide +kernel
theorem dX12_builds_11 : decode cX12_builds 11 = .ok (.aload_n 0, 1) := by decide +kernel
theorem dX12_builds_12 : decode cX12_builds 12 = .ok (.iload_n 1, 1) := by decide +kernel
theorem dX12_builds_13 : decode cX12_builds 13 = .ok (.iconst 0, 1) := by decide +kernel
theorem dX12_builds_14 : decode cX12_builds 14 = .ok (.invokevirtual 327, 3) := by decide +kernel
theorem dX12_builds_17 : decode cX12_builds 17 = .ok (.iload_n 2, 1) := by decide +kernel
theorem dX12_builds_18 : decode cX12_builds 18 = .ok (.iadd, 1) := by decide +kernel
theorem dX12_builds_19 : decode cX12_builds 19 = .ok (.istore 5, 2) := by decide +kernel
theorem dX12_builds_21 : decode cX12_builds 21 = .ok (.aload_n 0, 1) := by decide +kernel
theorem dX12_builds_22 : decode cX12_builds 22 = .ok (.iload_n 1, 1) := by decide +kernel
theorem dX12_builds_23 : decode cX12_builds 23 = .ok (.iconst 1, 1) := by decide +kernel
theorem dX12_builds_24 : decode cX12_builds 24 = .ok (.invokevirtual 327, 3) := by decide +kernel
theorem dX12_builds_27 : decode cX12_builds 27 = .ok (.iload_n 3, 1) := by decide +kernel
theorem dX12_builds_28 : decode cX12_builds 28 = .ok (.iadd, 1) := by decide +kernel
theorem dX12_builds_29 : decode cX12_builds 29 = .ok (.istore 6, 2) := by decide +kernel
theorem dX12_builds_31 : decode cX12_builds 31 = .ok (.aload_n 0, 1) := by decide +kernel
theorem dX12_builds_32 : decode cX12_builds 32 = .ok (.getfield 45, 3) := by decide +kernel
theorem dX12_builds_35 : decode cX12_builds 35 = .ok (.bipush 126, 2) := by decide +kernel
theorem dX12_builds_37 : decode cX12_builds 37 = .ok (.bipush 40, 2) := by decide +kernel
theorem dX12_builds_39 : decode cX12_builds 39 = .ok (.iload_n 1, 1) := by decide +kernel
theorem dX12_builds_40 : decode cX12_builds 40 = .ok (.imul, 1) := by decide +kernel
theorem dX12_builds_41 : decode cX12_builds 41 = .ok (.iadd, 1) := by decide +kernel
theorem dX12_builds_42 : decode cX12_builds 42 = .ok (.iload 4, 2) := by decide +kernel
theorem dX12_builds_44 : decode cX12_builds 44 = .ok (.iadd, 1) := by decide +kernel
theorem dX12_builds_45 : decode cX12_builds 45 = .ok (.iload 5, 2) := by decide +kernel
theorem dX12_builds_47 : decode cX12_builds 47 = .ok (.iastore, 1) := by decide +kernel
theorem dX12_builds_48 : decode cX12_builds 48 = .ok (.aload_n 0, 1) := by decide +kernel
theorem dX12_builds_49 : decode cX12_builds 49 = .ok (.getfield 45, 3) := by decide +kernel
theorem dX12_builds_52 : decode cX12_builds 52 = .ok (.sipush 206, 3) := by decide +kernel
theorem dX12_builds_55 : decode cX12_builds 55 = .ok (.bipush 40, 2) := by decide +kernel
theorem dX12_builds_57 : decode cX12_builds 57 = .ok (.iload_n 1, 1) := by decide +kernel
theorem dX12_builds_58 : decode cX12_builds 58 = .ok (.imul, 1) := by decide +kernel
theorem dX12_builds_59 : decode cX12_builds 59 = .ok (.iadd, 1) := by decide +kernel
theorem dX12_builds_60 : decode cX12_builds 60 = .ok (.iload 4, 2) := by decide +kernel
theorem dX12_builds_62 : decode cX12_builds 62 = .ok (.iadd, 1) := by decide +kernel
theorem dX12_builds_63 : decode cX12_builds 63 = .ok (.iload 6, 2) := by decide +kernel
theorem dX12_builds_65 : decode cX12_builds 65 = .ok (.iastore, 1) := by decide +kernel
theorem dX12_builds_66 : decode cX12_builds 66 = .ok (.aload_n 0, 1) := by decide +kernel
theorem dX12_builds_67 : decode cX12_builds 67 = .ok (.getfield 45, 3) := by decide +kernel
theorem dX12_builds_70 : decode cX12_builds 70 = .ok (.bipush 6, 2) := by decide +kernel
theorem dX12_builds_72 : decode cX12_builds 72 = .ok (.iload_n 1, 1) := by decide +kernel
theorem dX12_builds_73 : decode cX12_builds 73 = .ok (.iadd, 1) := by decide +kernel
theorem dX12_builds_74 : decode cX12_builds 74 = .ok (.dup2, 1) := by decide +kernel
theorem dX12_builds_75 : decode cX12_builds 75 = .ok (.iaload, 1) := by decide +kernel
theorem dX12_builds_76 : decode cX12_builds 76 = .ok (.iconst 1, 1) := by decide +kernel
theorem dX12_builds_77 : decode cX12_builds 77 = .ok (.iadd, 1) := by decide +kernel
theorem dX12_builds_78 : decode cX12_builds 78 = .ok (.iastore, 1) := by decide +kernel
theorem dX12_builds_79 : decode cX12_builds 79 = .ok (.return_, 1) := by decide +kernel
set_option maxRecDepth 20000 in
theorem ggX12_takesYards_X12_greater : GoodIn wsX12_takesYards wsX12_greater := goodIn_r _ [5] rfl (by decide +kernel)
set_option maxRecDepth 20000 in
theorem gX12_takesYards_X12_greater : GoodIn wsX12_takesYards (va_wsS RX12 357 yX12_greater wsX12_greater) := goodIn_app (goodIn_of _ (by decide +kernel)) ggX12_takesYards_X12_greater
theorem dX12_takesYards_0 : decode cX12_takesYards 0 = .ok (.aload_n 0, 1) := by decide +kernel
theorem dX12_takesYards_1 : decode cX12_takesYards 1 = .ok (.getfield 45, 3) := by decide +kernel
theorem dX12_takesYards_4 : decode cX12_takesYards 4 = .ok (.bipush 6, 2) := by decide +kernel
theorem dX12_takesYards_6 : decode cX12_takesYards 6 = .ok (.iload_n 1, 1) := by decide +kernel
theorem dX12_takesYards_7 : decode cX12_takesYards 7 = .ok (.iadd, 1) := by decide +kernel
theorem dX12_takesYards_8 : decode cX12_takesYards 8 = .ok (.iconst 0, 1) := by decide +kernel
theorem dX12_takesYards_9 : decode cX12_takesYards 9 = .ok (.aload_n 0, 1) := by decide +kernel
theorem dX12_takesYards_10 : decode cX12_takesYards 10 = .ok (.getfield 45, 3) := by decide +kernel
theorem dX12_takesYards_13 : decode cX12_takesYards 13 = .ok (.bipush 6, 2) := by decide +kernel
theorem dX12_takesYards_15 : decode cX12_takesYards 15 = .ok (.iload_n 1, 1) := by decide +kernel
theorem dX12_takesYards_16 : decode cX12_takesYards 16 = .ok (.iadd, 1) := by decide +kernel
theorem dX12_takesYards_17 : decode cX12_takesYards 17 = .ok (.iaload, 1) := by decide +kernel
theorem dX12_takesYards_18 : decode cX12_takesYards 18 = .ok (.iload_n 2, 1) := by decide +kernel
theorem dX12_takesYards_19 : decode cX12_takesYards 19 = .ok (.isub, 1) := by decide +kernel
theorem dX12_takesYards_20 : decode cX12_takesYards 20 = .ok (.invokestatic 357, 3) := by decide +kernel
theorem dX12_takesYards_23 : decode cX12_takesYards 23 = .ok (.iastore, 1) := by decide +kernel
theorem dX12_takesYards_24 : decode cX12_takesYards 24 = .ok (.return_, 1) := by decide +kernel
set_option maxRecDepth 20000 in
theorem ggX12_build_X12_isRiver : GoodIn wsX12_build wsX12_isRiver := goodIn_r _ [6, 1, 29, 30, 31, 32, 33, 34, 35, 36, 37, 38, 39, 40, 41, 42, 43, 44, 45, 46, 47, 48, 49, 50, 51, 52, 53, 54, 55, 56, 57, 58, 59, 60, 61, 62, 63, 64, 65, 66, 67, 68, 69, 70] rfl (by decide +kernel)
set_option maxRecDepth 20000 in
theorem gX12_build_X12_isRiver : GoodIn wsX12_build (wsV RX12 331 RX12 yX12_isRiver wsX12_isRiver) := goodIn_app (goodIn_of _ (by decide +kernel)) ggX12_build_X12_isRiver
set_option maxRecDepth 20000 in
theorem ggX12_build_X12_isSide : GoodIn wsX12_build wsX12_isSide := goodIn_r _ [9] rfl (by decide +kernel)
set_option maxRecDepth 20000 in
theorem gX12_build_X12_isSide : GoodIn wsX12_build (va_wsS RX12 334 yX12_isSide wsX12_isSide) := goodIn_app (goodIn_of _ (by decide +kernel)) ggX12_build_X12_isSide
set_option maxRecDepth 20000 in
theorem ggX12_build_X12_gap : GoodIn wsX12_build wsX12_gap := goodIn_r _ [13, 1, 29, 30, 31, 32, 33, 34, 35, 36, 37, 38, 39, 40, 41, 42, 43, 44, 45, 46, 47, 48, 49, 50, 51, 52, 53, 54, 55, 56, 57, 58, 59, 60, 61, 62, 63, 64, 65, 66, 67, 68, 69, 70] rfl (by decide +kernel)
set_option maxRecDepth 20000 in
theorem gX12_build_X12_gap : GoodIn wsX12_build (wsV RX12 314 RX12 yX12_gap wsX12_gap) := goodIn_app (goodIn_of _ (by decide +kernel)) ggX12_build_X12_gap
set_option maxRecDepth 20000 in
theorem ggX12_build_X12_in : GoodIn wsX12_build wsX12_in := goodIn_r _ [16] rfl (by decide +kernel)
set_option maxRecDepth 20000 in
theorem gX12_build_X12_in : GoodIn wsX12_build (va_wsS RX12 131 yX12_in wsX12_in) := goodIn_app (goodIn_of _ (by decide +kernel)) ggX12_build_X12_in
set_option maxRecDepth 20000 in
theorem ggX12_build_X12_builds : GoodIn wsX12_build wsX12_builds := goodIn_r _ [20, 1, 21, 22, 23, 5, 24, 25, 26, 27, 28, 29, 30, 31, 32, 33, 34, 35, 36, 37, 38, 39, 40, 41, 42, 43, 44, 45, 46, 47, 48, 49, 50, 51, 52, 53, 54, 55, 56, 57, 58, 59, 60, 61, 62, 63, 64, 65, 66, 67, 68, 69, 70] rfl (by decide +kernel)
set_option maxRecDepth 20000 in
theorem gX12_build_X12_builds : GoodIn wsX12_build (wsV RX12 360 RX12 yX12_builds wsX12_builds) := goodIn_app (goodIn_of _ (by decide +kernel)) ggX12_build_X12_builds
theorem dX12_build_0 : decode cX12_build 0 = .ok (.aload_n 0, 1) := by decide +kernel
theorem dX12_build_1 : decode cX12_build 1 = .ok (.invokevirtual 331, 3) := by decide +kernel
theorem dX12_build_4 : decode cX12_build 4 = .ok (.ifCond .eq 63, 3) := by decide +kernel
theorem dX12_build_7 : decode cX12_build 7 = .ok (.iload_n 1, 1) := by decide +kernel
theorem dX12_build_8 : decode cX12_build 8 = .ok (.invokestatic 334, 3) := by decide +kernel
theorem dX12_build_11 : decode cX12_build 11 = .ok (.ifCond .eq 56, 3) := by decide +kernel
theorem dX12_build_14 : decode cX12_build 14 = .ok (.aload_n 0, 1) := by decide +kernel
theorem dX12_build_15 : decode cX12_build 15 = .ok (.invokevirtual 314, 3) := by decide +kernel
theorem dX12_build_18 : decode cX12_build 18 = .ok (.ifCond .eq 49, 3) := by decide +kernel
theorem dX12_build_21 : decode cX12_build 21 = .ok (.iload_n 2, 1) := by decide +kernel
theorem dX12_build_22 : decode cX12_build 22 = .ok (.i2l, 1) := by decide +kernel
theorem dX12_build_23 : decode cX12_build 23 = .ok (.aload_n 0, 1) := by decide +kernel
theorem dX12_build_24 : decode cX12_build 24 = .ok (.getfield 45, 3) := by decide +kernel
theorem dX12_build_27 : decode cX12_build 27 = .ok (.iconst 2, 1) := by decide +kernel
theorem dX12_build_28 : decode cX12_build 28 = .ok (.iaload, 1) := by decide +kernel
theorem dX12_build_29 : decode cX12_build 29 = .ok (.ineg, 1) := by decide +kernel
theorem dX12_build_30 : decode cX12_build 30 = .ok (.i2l, 1) := by decide +kernel
theorem dX12_build_31 : decode cX12_build 31 = .ok (.aload_n 0, 1) := by decide +kernel
theorem dX12_build_32 : decode cX12_build 32 = .ok (.getfield 45, 3) := by decide +kernel
theorem dX12_build_35 : decode cX12_build 35 = .ok (.iconst 2, 1) := by decide +kernel
theorem dX12_build_36 : decode cX12_build 36 = .ok (.iaload, 1) := by decide +kernel
theorem dX12_build_37 : decode cX12_build 37 = .ok (.i2l, 1) := by decide +kernel
theorem dX12_build_38 : decode cX12_build 38 = .ok (.invokestatic 131, 3) := by decide +kernel
theorem dX12_build_41 : decode cX12_build 41 = .ok (.ifCond .eq 26, 3) := by decide +kernel
theorem dX12_build_44 : decode cX12_build 44 = .ok (.iload_n 3, 1) := by decide +kernel
theorem dX12_build_45 : decode cX12_build 45 = .ok (.i2l, 1) := by decide +kernel
theorem dX12_build_46 : decode cX12_build 46 = .ok (.aload_n 0, 1) := by decide +kernel
theorem dX12_build_47 : decode cX12_build 47 = .ok (.getfield 45, 3) := by decide +kernel
theorem dX12_build_50 : decode cX12_build 50 = .ok (.iconst 2, 1) := by decide +kernel
theorem dX12_build_51 : decode cX12_build 51 = .ok (.iaload, 1) := by decide +kernel
theorem dX12_build_52 : decode cX12_build 52 = .ok (.ineg, 1) := by decide +kernel
theorem dX12_build_53 : decode cX12_build 53 = .ok (.i2l, 1) := by decide +kernel
theorem dX12_build_54 : decode cX12_build 54 = .ok (.aload_n 0, 1) := by decide +kernel
theorem dX12_build_55 : decode cX12_build 55 = .ok (.getfield 45, 3) := by decide +kernel
theorem dX12_build_58 : decode cX12_build 58 = .ok (.iconst 2, 1) := by decide +kernel
theorem dX12_build_59 : decode cX12_build 59 = .ok (.iaload, 1) := by decide +kernel
theorem dX12_build_60 : decode cX12_build 60 = .ok (.i2l, 1) := by decide +kernel
theorem dX12_build_61 : decode cX12_build 61 = .ok (.invokestatic 131, 3) := by decide +kernel
theorem dX12_build_64 : decode cX12_build 64 = .ok (.ifCond .ne 5, 3) := by decide +kernel
theorem dX12_build_67 : decode cX12_build 67 = .ok (.iconst 0, 1) := by decide +kernel
theorem dX12_build_68 : decode cX12_build 68 = .ok (.ireturn, 1) := by decide +kernel
theorem dX12_build_69 : decode cX12_build 69 = .ok (.aload_n 0, 1) := by decide +kernel
theorem dX12_build_70 : decode cX12_build 70 = .ok (.iload_n 1, 1) := by decide +kernel
theorem dX12_build_71 : decode cX12_build 71 = .ok (.iload_n 2, 1) := by decide +kernel
theorem dX12_build_72 : decode cX12_build 72 = .ok (.iload_n 3, 1) := by decide +kernel
theorem dX12_build_73 : decode cX12_build 73 = .ok (.invokevirtual 360, 3) := by decide +kernel
theorem dX12_build_76 : decode cX12_build 76 = .ok (.iconst 1, 1) := by decide +kernel
theorem dX12_build_77 : decode cX12_build 77 = .ok (.ireturn, 1) := by decide +kernel
set_option maxRecDepth 20000 in
theorem ggX12_pull_X12_isRiver : GoodIn wsX12_pull wsX12_isRiver := goodIn_r _ [6, 1, 17, 18, 19, 20, 21, 22, 23, 24, 25, 26, 27, 28, 29, 30, 31, 32, 33, 34, 35, 36, 37, 38, 39, 40, 41, 42, 43, 44, 45, 46, 47, 48, 49, 50, 51, 52, 53, 54, 55, 56, 57, 58] rfl (by decide +kernel)
set_option maxRecDepth 20000 in
theorem gX12_pull_X12_isRiver : GoodIn wsX12_pull (wsV RX12 331 RX12 yX12_isRiver wsX12_isRiver) := goodIn_app (goodIn_of _ (by decide +kernel)) ggX12_pull_X12_isRiver
set_option maxRecDepth 20000 in
theorem ggX12_pull_X12_isSide : GoodIn wsX12_pull wsX12_isSide := goodIn_r _ [9] rfl (by decide +kernel)
set_option maxRecDepth 20000 in
theorem gX12_pull_X12_isSide : GoodIn wsX12_pull (va_wsS RX12 334 yX12_isSide wsX12_isSide) := goodIn_app (goodIn_of _ (by decide +kernel)) ggX12_pull_X12_isSide
set_option maxRecDepth 20000 in
theorem ggX12_pull_X12_takesYards : GoodIn wsX12_pull wsX12_takesYards := goodIn_r _ [13, 1, 14, 15, 5, 16, 17, 18, 19, 20, 21, 22, 23, 24, 25, 26, 27, 28, 29, 30, 31, 32, 33, 34, 35, 36, 37, 38, 39, 40, 41, 42, 43, 44, 45, 46, 47, 48, 49, 50, 51, 52, 53, 54, 55, 56, 57, 58] rfl (by decide +kernel)
set_option maxRecDepth 20000 in
theorem gX12_pull_X12_takesYards : GoodIn wsX12_pull (wsV RX12 364 RX12 yX12_takesYards wsX12_takesYards) := goodIn_app (goodIn_of _ (by decide +kernel)) ggX12_pull_X12_takesYards
theorem dX12_pull_0 : decode cX12_pull 0 = .ok (.aload_n 0, 1) := by decide +kernel
theorem dX12_pull_1 : decode cX12_pull 1 = .ok (.invokevirtual 331, 3) := by decide +kernel
theorem dX12_pull_4 : decode cX12_pull 4 = .ok (.ifCond .eq 22, 3) := by decide +kernel
theorem dX12_pull_7 : decode cX12_pull 7 = .ok (.iload_n 1, 1) := by decide +kernel
theorem dX12_pull_8 : decode cX12_pull 8 = .ok (.invokestatic 334, 3) := by decide +kernel
theorem dX12_pull_11 : decode cX12_pull 11 = .ok (.ifCond .eq 15, 3) := by decide +kernel
theorem dX12_pull_14 : decode cX12_pull 14 = .ok (.aload_n 0, 1) := by decide +kernel
theorem dX12_pull_15 : decode cX12_pull 15 = .ok (.getfield 45, 3) := by decide +kernel
theorem dX12_pull_18 : decode cX12_pull 18 = .ok (.bipush 6, 2) := by decide +kernel
theorem dX12_pull_20 : decode cX12_pull 20 = .ok (.iload_n 1, 1) := by decide +kernel
theorem dX12_pull_21 : decode cX12_pull 21 = .ok (.iadd, 1) := by decide +kernel
theorem dX12_pull_22 : decode cX12_pull 22 = .ok (.iaload, 1) := by decide +kernel
theorem dX12_pull_23 : decode cX12_pull 23 = .ok (.ifCond .ne 5, 3) := by decide +kernel
theorem dX12_pull_26 : decode cX12_pull 26 = .ok (.iconst 0, 1) := by decide +kernel
theorem dX12_pull_27 : decode cX12_pull 27 = .ok (.ireturn, 1) := by decide +kernel
theorem dX12_pull_28 : decode cX12_pull 28 = .ok (.aload_n 0, 1) := by decide +kernel
theorem dX12_pull_29 : decode cX12_pull 29 = .ok (.iload_n 1, 1) := by decide +kernel
theorem dX12_pull_30 : decode cX12_pull 30 = .ok (.iconst 1, 1) := by decide +kernel
theorem dX12_pull_31 : decode cX12_pull 31 = .ok (.invokevirtual 364, 3) := by decide +kernel
theorem dX12_pull_34 : decode cX12_pull 34 = .ok (.iconst 1, 1) := by decide +kernel
theorem dX12_pull_35 : decode cX12_pull 35 = .ok (.ireturn, 1) := by decide +kernel
theorem dX12_held_0 : decode cX12_held 0 = .ok (.lload_n 1, 1) := by decide +kernel
theorem dX12_held_1 : decode cX12_held 1 = .ok (.aload_n 0, 1) := by decide +kernel
theorem dX12_held_2 : decode cX12_held 2 = .ok (.getfield 45, 3) := by decide +kernel
theorem dX12_held_5 : decode cX12_held 5 = .ok (.iconst 2, 1) := by decide +kernel
theorem dX12_held_6 : decode cX12_held 6 = .ok (.iaload, 1) := by decide +kernel
theorem dX12_held_7 : decode cX12_held 7 = .ok (.ineg, 1) := by decide +kernel
theorem dX12_held_8 : decode cX12_held 8 = .ok (.i2l, 1) := by decide +kernel
theorem dX12_held_9 : decode cX12_held 9 = .ok (.lcmp, 1) := by decide +kernel
theorem dX12_held_10 : decode cX12_held 10 = .ok (.ifCond .ge 14, 3) := by decide +kernel
theorem dX12_held_13 : decode cX12_held 13 = .ok (.aload_n 0, 1) := by decide +kernel
theorem dX12_held_14 : decode cX12_held 14 = .ok (.getfield 45, 3) := by decide +kernel
theorem dX12_held_17 : decode cX12_held 17 = .ok (.iconst 2, 1) := by decide +kernel
theorem dX12_held_18 : decode cX12_held 18 = .ok (.iaload, 1) := by decide +kernel
theorem dX12_held_19 : decode cX12_held 19 = .ok (.ineg, 1) := by decide +kernel
theorem dX12_held_20 : decode cX12_held 20 = .ok (.i2l, 1) := by decide +kernel
theorem dX12_held_21 : decode cX12_held 21 = .ok (.goto 26, 3) := by decide +kernel
theorem dX12_held_24 : decode cX12_held 24 = .ok (.lload_n 1, 1) := by decide +kernel
theorem dX12_held_25 : decode cX12_held 25 = .ok (.aload_n 0, 1) := by decide +kernel
theorem dX12_held_26 : decode cX12_held 26 = .ok (.getfield 45, 3) := by decide +kernel
theorem dX12_held_29 : decode cX12_held 29 = .ok (.iconst 2, 1) := by decide +kernel
theorem dX12_held_30 : decode cX12_held 30 = .ok (.iaload, 1) := by decide +kernel
theorem dX12_held_31 : decode cX12_held 31 = .ok (.i2l, 1) := by decide +kernel
theorem dX12_held_32 : decode cX12_held 32 = .ok (.lcmp, 1) := by decide +kernel
theorem dX12_held_33 : decode cX12_held 33 = .ok (.ifCond .le 13, 3) := by decide +kernel
theorem dX12_held_36 : decode cX12_held 36 = .ok (.aload_n 0, 1) := by decide +kernel
theorem dX12_held_37 : decode cX12_held 37 = .ok (.getfield 45, 3) := by decide +kernel
theorem dX12_held_40 : decode cX12_held 40 = .ok (.iconst 2, 1) := by decide +kernel
theorem dX12_held_41 : decode cX12_held 41 = .ok (.iaload, 1) := by decide +kernel
theorem dX12_held_42 : decode cX12_held 42 = .ok (.i2l, 1) := by decide +kernel
theorem dX12_held_43 : decode cX12_held 43 = .ok (.goto 4, 3) := by decide +kernel
theorem dX12_held_46 : decode cX12_held 46 = .ok (.lload_n 1, 1) := by decide +kernel
theorem dX12_held_47 : decode cX12_held 47 = .ok (.l2i, 1) := by decide +kernel
theorem dX12_held_48 : decode cX12_held 48 = .ok (.ireturn, 1) := by decide +kernel
set_option maxRecDepth 20000 in
theorem ggX12_isSo_X12_reckons : GoodIn wsX12_isSo wsX12_reckons := goodIn_r _ [6, 7, 8, 9, 10, 11, 12, 5, 13, 14, 15, 16, 17, 18, 19, 20, 21, 22, 23, 24, 25, 26, 27, 28, 29, 30, 31, 32, 33, 34, 35, 36, 37, 38, 39, 40, 41, 42, 43, 44, 45, 46, 47, 48, 49, 50, 51, 52, 53, 54, 55, 56, 57, 58, 59, 60, 61, 62, 63] rfl (by decide +kernel)
set_option maxRecDepth 20000 in
theorem gX12_isSo_X12_reckons : GoodIn wsX12_isSo (wsV RX12 367 RX12 yX12_reckons wsX12_reckons) := goodIn_app (goodIn_of _ (by decide +kernel)) ggX12_isSo_X12_reckons
theorem dX12_isSo_0 : decode cX12_isSo 0 = .ok (.aload_n 0, 1) := by decide +kernel
theorem dX12_isSo_1 : decode cX12_isSo 1 = .ok (.iload_n 1, 1) := by decide +kernel
theorem dX12_isSo_2 : decode cX12_isSo 2 = .ok (.aload_n 0, 1) := by decide +kernel
theorem dX12_isSo_3 : decode cX12_isSo 3 = .ok (.getfield 20, 3) := by decide +kernel
theorem dX12_isSo_6 : decode cX12_isSo 6 = .ok (.iload_n 2, 1) := by decide +kernel
theorem dX12_isSo_7 : decode cX12_isSo 7 = .ok (.iconst 3, 1) := by decide +kernel
theorem dX12_isSo_8 : decode cX12_isSo 8 = .ok (.iadd, 1) := by decide +kernel
theorem dX12_isSo_9 : decode cX12_isSo 9 = .ok (.iaload, 1) := by decide +kernel
theorem dX12_isSo_10 : decode cX12_isSo 10 = .ok (.aload_n 0, 1) := by decide +kernel
theorem dX12_isSo_11 : decode cX12_isSo 11 = .ok (.getfield 20, 3) := by decide +kernel
theorem dX12_isSo_14 : decode cX12_isSo 14 = .ok (.iload_n 2, 1) := by decide +kernel
theorem dX12_isSo_15 : decode cX12_isSo 15 = .ok (.iconst 4, 1) := by decide +kernel
theorem dX12_isSo_16 : decode cX12_isSo 16 = .ok (.iadd, 1) := by decide +kernel
theorem dX12_isSo_17 : decode cX12_isSo 17 = .ok (.iaload, 1) := by decide +kernel
theorem dX12_isSo_18 : decode cX12_isSo 18 = .ok (.invokevirtual 367, 3) := by decide +kernel
theorem dX12_isSo_21 : decode cX12_isSo 21 = .ok (.lconst 1, 1) := by decide +kernel
theorem dX12_isSo_22 : decode cX12_isSo 22 = .ok (.lcmp, 1) := by decide +kernel
theorem dX12_isSo_23 : decode cX12_isSo 23 = .ok (.ifCond .ne 7, 3) := by decide +kernel
theorem dX12_isSo_26 : decode cX12_isSo 26 = .ok (.iconst 1, 1) := by decide +kernel
theorem dX12_isSo_27 : decode cX12_isSo 27 = .ok (.goto 4, 3) := by decide +kernel
theorem dX12_isSo_30 : decode cX12_isSo 30 = .ok (.iconst 0, 1) := by decide +kernel
theorem dX12_isSo_31 : decode cX12_isSo 31 = .ok (.ireturn, 1) := by decide +kernel
set_option maxRecDepth 20000 in
theorem ggX12_isAny_X12_isSo : GoodIn wsX12_isAny wsX12_isSo := goodIn_r _ [7, 2, 8, 9, 10, 6, 11, 12, 13, 14, 15, 16, 17, 18, 19, 20, 21, 22, 23, 24, 25, 26, 27, 28, 29, 30, 31, 32, 33, 34, 35, 36, 37, 38, 39, 40, 41, 42, 43, 44, 45, 46, 47, 48, 49, 50, 51, 52, 53, 54, 55, 56, 57, 58, 59, 60, 61, 62, 63, 64, 65, 66, 67, 68] rfl (by decide +kernel)
set_option maxRecDepth 20000 in
theorem gX12_isAny_X12_isSo : GoodIn wsX12_isAny (wsV RX12 371 RX12 yX12_isSo wsX12_isSo) := goodIn_app (goodIn_of _ (by decide +kernel)) ggX12_isAny_X12_isSo
theorem dX12_isAny_0 : decode cX12_isAny 0 = .ok (.iconst 0, 1) := by decide +kernel
theorem dX12_isAny_1 : decode cX12_isAny 1 = .ok (.istore_n 3, 1) := by decide +kernel
theorem dX12_isAny_2 : decode cX12_isAny 2 = .ok (.iload_n 3, 1) := by decide +kernel
theorem dX12_isAny_3 : decode cX12_isAny 3 = .ok (.aload_n 0, 1) := by decide +kernel
theorem dX12_isAny_4 : decode cX12_isAny 4 = .ok (.getfield 23, 3) := by decide +kernel
theorem dX12_isAny_7 : decode cX12_isAny 7 = .ok (.iload_n 1, 1) := by decide +kernel
theorem dX12_isAny_8 : decode cX12_isAny 8 = .ok (.iaload, 1) := by decide +kernel
theorem dX12_isAny_9 : decode cX12_isAny 9 = .ok (.if_icmp .ge 42, 3) := by decide +kernel
theorem dX12_isAny_12 : decode cX12_isAny 12 = .ok (.bipush 60, 2) := by decide +kernel
theorem dX12_isAny_14 : decode cX12_isAny 14 = .ok (.iload_n 1, 1) := by decide +kernel
theorem dX12_isAny_15 : decode cX12_isAny 15 = .ok (.imul, 1) := by decide +kernel
theorem dX12_isAny_16 : decode cX12_isAny 16 = .ok (.iconst 5, 1) := by decide +kernel
theorem dX12_isAny_17 : decode cX12_isAny 17 = .ok (.iload_n 3, 1) := by decide +kernel
theorem dX12_isAny_18 : decode cX12_isAny 18 = .ok (.imul, 1) := by decide +kernel
theorem dX12_isAny_19 : decode cX12_isAny 19 = .ok (.iadd, 1) := by decide +kernel
theorem dX12_isAny_20 : decode cX12_isAny 20 = .ok (.istore 4, 2) := by decide +kernel
theorem dX12_isAny_22 : decode cX12_isAny 22 = .ok (.aload_n 0, 1) := by decide +kernel
theorem dX12_isAny_23 : decode cX12_isAny 23 = .ok (.getfield 20, 3) := by decide +kernel
theorem dX12_isAny_26 : decode cX12_isAny 26 = .ok (.iload 4, 2) := by decide +kernel
theorem dX12_isAny_28 : decode cX12_isAny 28 = .ok (.iaload, 1) := by decide +kernel
theorem dX12_isAny_29 : decode cX12_isAny 29 = .ok (.iload_n 2, 1) := by decide +kernel
theorem dX12_isAny_30 : decode cX12_isAny 30 = .ok (.if_icmp .ne 15, 3) := by decide +kernel
theorem dX12_isAny_33 : decode cX12_isAny 33 = .ok (.aload_n 0, 1) := by decide +kernel
theorem dX12_isAny_34 : decode cX12_isAny 34 = .ok (.iload_n 1, 1) := by decide +kernel
theorem dX12_isAny_35 : decode cX12_isAny 35 = .ok (.iload 4, 2) := by decide +kernel
theorem dX12_isAny_37 : decode cX12_isAny 37 = .ok (.invokevirtual 371, 3) := by decide +kernel
theorem dX12_isAny_40 : decode cX12_isAny 40 = .ok (.ifCond .eq 5, 3) := by decide +kernel
theorem dX12_isAny_43 : decode cX12_isAny 43 = .ok (.iconst 1, 1) := by decide +kernel
theorem dX12_isAny_44 : decode cX12_isAny 44 = .ok (.ireturn, 1) := by decide +kernel
theorem dX12_isAny_45 : decode cX12_isAny 45 = .ok (.iinc 3 1, 3) := by decide +kernel
theorem dX12_isAny_48 : decode cX12_isAny 48 = .ok (.goto (-46), 3) := by decide +kernel
theorem dX12_isAny_51 : decode cX12_isAny 51 = .ok (.iconst 0, 1) := by decide +kernel
theorem dX12_isAny_52 : decode cX12_isAny 52 = .ok (.ireturn, 1) := by decide +kernel
set_option maxRecDepth 20000 in
theorem ggX12_first_X12_isSo : GoodIn wsX12_first wsX12_isSo := goodIn_r _ [7, 2, 8, 9, 10, 6, 11, 12, 13, 14, 15, 16, 17, 18, 19, 20, 21, 22, 23, 24, 25, 26, 32, 33, 34, 35, 36, 37, 38, 39, 40, 41, 42, 43, 44, 45, 46, 47, 48, 49, 50, 51, 52, 53, 54, 55, 56, 57, 58, 59, 60, 61, 62, 63, 64, 65, 66, 67, 68, 69, 70, 71, 72, 73] rfl (by decide +kernel)
set_option maxRecDepth 20000 in
theorem gX12_first_X12_isSo : GoodIn wsX12_first (wsV RX12 371 RX12 yX12_isSo wsX12_isSo) := goodIn_app (goodIn_of _ (by decide +kernel)) ggX12_first_X12_isSo
set_option maxRecDepth 20000 in
theorem ggX12_first_X12_reckons : GoodIn wsX12_first wsX12_reckons := goodIn_r _ [11, 12, 13, 14, 15, 16, 17, 6, 18, 19, 20, 21, 22, 23, 24, 25, 26, 32, 33, 34, 35, 36, 37, 38, 39, 40, 41, 42, 43, 44, 45, 46, 47, 48, 49, 50, 51, 52, 53, 54, 55, 56, 57, 58, 59, 60, 61, 62, 63, 64, 65, 66, 67, 68, 69, 70, 71, 72, 73] rfl (by decide +kernel)
set_option maxRecDepth 20000 in
theorem gX12_first_X12_reckons : GoodIn wsX12_first (wsV RX12 367 RX12 yX12_reckons wsX12_reckons) := goodIn_app (goodIn_of _ (by decide +kernel)) ggX12_first_X12_reckons
set_option maxRecDepth 20000 in
theorem ggX12_first_X12_held : GoodIn wsX12_first wsX12_held := goodIn_r _ [30, 31, 32, 33, 34, 35, 36, 37, 38, 39, 40, 41, 42, 43, 44, 45, 46, 47, 48, 49, 50, 51, 52, 53, 54, 55, 56, 57, 58, 59, 60, 61, 62, 63, 64, 65, 66, 67, 68, 69, 70, 71, 72, 73] rfl (by decide +kernel)
set_option maxRecDepth 20000 in
theorem gX12_first_X12_held : GoodIn wsX12_first (wsV RX12 374 RX12 yX12_held wsX12_held) := goodIn_app (goodIn_of _ (by decide +kernel)) ggX12_first_X12_held
theorem dX12_first_0 : decode cX12_first 0 = .ok (.iconst 0, 1) := by decide +kernel
theorem dX12_first_1 : decode cX12_first 1 = .ok (.istore_n 3, 1) := by decide +kernel
theorem dX12_first_2 : decode cX12_first 2 = .ok (.iload_n 3, 1) := by decide +kernel
theorem dX12_first_3 : decode cX12_first 3 = .ok (.aload_n 0, 1) := by decide +kernel
theorem dX12_first_4 : decode cX12_first 4 = .ok (.getfield 23, 3) := by decide +kernel
theorem dX12_first_7 : decode cX12_first 7 = .ok (.iload_n 1, 1) := by decide +kernel
theorem dX12_first_8 : decode cX12_first 8 = .ok (.iaload, 1) := by decide +kernel
theorem dX12_first_9 : decode cX12_first 9 = .ok (.if_icmp .ge 80, 3) := by decide +kernel
theorem dX12_first_12 : decode cX12_first 12 = .ok (.bipush 60, 2) := by decide +kernel
theorem dX12_first_14 : decode cX12_first 14 = .ok (.iload_n 1, 1) := by decide +kernel
theorem dX12_first_15 : decode cX12_first 15 = .ok (.imul, 1) := by decide +kernel
theorem dX12_first_16 : decode cX12_first 16 = .ok (.iconst 5, 1) := by decide +kernel
theorem dX12_first_17 : decode cX12_first 17 = .ok (.iload_n 3, 1) := by decide +kernel
theorem dX12_first_18 : decode cX12_first 18 = .ok (.imul, 1) := by decide +kernel
theorem dX12_first_19 : decode cX12_first 19 = .ok (.iadd, 1) := by decide +kernel
theorem dX12_first_20 : decode cX12_first 20 = .ok (.istore 4, 2) := by decide +kernel
theorem dX12_first_22 : decode cX12_first 22 = .ok (.aload_n 0, 1) := by decide +kernel
theorem dX12_first_23 : decode cX12_first 23 = .ok (.getfield 20, 3) := by decide +kernel
theorem dX12_first_26 : decode cX12_first 26 = .ok (.iload 4, 2) := by decide +kernel
theorem dX12_first_28 : decode cX12_first 28 = .ok (.iaload, 1) := by decide +kernel
theorem dX12_first_29 : decode cX12_first 29 = .ok (.iload_n 2, 1) := by decide +kernel
theorem dX12_first_30 : decode cX12_first 30 = .ok (.if_icmp .ne 53, 3) := by decide +kernel
theorem dX12_first_33 : decode cX12_first 33 = .ok (.aload_n 0, 1) := by decide +kernel
theorem dX12_first_34 : decode cX12_first 34 = .ok (.getfield 20, 3) := by decide +kernel
theorem dX12_first_37 : decode cX12_first 37 = .ok (.iload 4, 2) := by decide +kernel
theorem dX12_first_39 : decode cX12_first 39 = .ok (.iconst 3, 1) := by decide +kernel
theorem dX12_first_40 : decode cX12_first 40 = .ok (.iadd, 1) := by decide +kernel
theorem dX12_first_41 : decode cX12_first 41 = .ok (.iaload, 1) := by decide +kernel
theorem dX12_first_42 : decode cX12_first 42 = .ok (.ifCond .lt 13, 3) := by decide +kernel
theorem dX12_first_45 : decode cX12_first 45 = .ok (.aload_n 0, 1) := by decide +kernel
theorem dX12_first_46 : decode cX12_first 46 = .ok (.iload_n 1, 1) := by decide +kernel
theorem dX12_first_47 : decode cX12_first 47 = .ok (.iload 4, 2) := by decide +kernel
theorem dX12_first_49 : decode cX12_first 49 = .ok (.invokevirtual 371, 3) := by decide +kernel
theorem dX12_first_52 : decode cX12_first 52 = .ok (.ifCond .eq 31, 3) := by decide +kernel
theorem dX12_first_55 : decode cX12_first 55 = .ok (.aload_n 0, 1) := by decide +kernel
theorem dX12_first_56 : decode cX12_first 56 = .ok (.aload_n 0, 1) := by decide +kernel
theorem dX12_first_57 : decode cX12_first 57 = .ok (.iload_n 1, 1) := by decide +kernel
theorem dX12_first_58 : decode cX12_first 58 = .ok (.aload_n 0, 1) := by decide +kernel
theorem dX12_first_59 : decode cX12_first 59 = .ok (.getfield 20, 3) := by decide +kernel
theorem dX12_first_62 : decode cX12_first 62 = .ok (.iload 4, 2) := by decide +kernel
theorem dX12_first_64 : decode cX12_first 64 = .ok (.iconst 1, 1) := by decide +kernel
