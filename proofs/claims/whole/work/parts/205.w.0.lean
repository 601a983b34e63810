set_option maxRecDepth 20000 in
theorem wl_wsL_law_r1 : ∀ w ∈ wsL_law_r1, w ∈ lw_tbl := tb_lr _ [1045, 1046, 1025, 5239, 5240, 1037, 1047, 1048, 1049, 1050, 1051, 1052, 1122, 2176, 1053, 2178, 1055, 1056, 1026, 2180, 2181, 1174, 1175, 1030] (by decide +kernel)
set_option maxRecDepth 20000 in
theorem wl_wsL_law_r2 : ∀ w ∈ wsL_law_r2, w ∈ lw_tbl := tb_lr _ [2182, 1200, 1201, 1031, 2183, 1216, 1217, 1032, 2184, 1244, 1245, 1033, 2185, 1057, 1058, 1059, 1060, 1061, 1062, 1027, 1151, 1123, 1160, 1161] (by decide +kernel)
set_option maxRecDepth 20000 in
theorem wl_wsL_law_r3 : ∀ w ∈ wsL_law_r3, w ∈ lw_tbl := tb_lr _ [1147, 1063, 1064, 1065, 1066, 1067, 1068, 1028, 1124, 1133, 1134, 1135, 1069, 1070, 1071, 1072, 1087, 1090, 1093, 1097, 1100, 1148, 1149, 1029] (by decide +kernel)
set_option maxRecDepth 20000 in
theorem wl_wsL_law_r4 : ∀ w ∈ wsL_law_r4, w ∈ lw_tbl := tb_lr _ [1150, 1176, 1177, 1178, 1179, 1180, 1181, 1182, 1202, 1203, 1204, 1205, 1206, 1218, 1219, 1220, 1221, 1223, 1224, 1225, 1226, 1222, 1246, 1247] (by decide +kernel)
set_option maxRecDepth 20000 in
theorem wl_wsL_law_r5 : ∀ w ∈ wsL_law_r5, w ∈ lw_tbl := tb_lr _ [1248, 1249, 1250, 1251, 1034, 2137, 2048, 2148, 2149, 2051, 2052, 1035, 2138, 2096, 2097, 1036, 2140, 1252, 1253, 1254, 1255, 1263, 1256, 1257] (by decide +kernel)
set_option maxRecDepth 20000 in
theorem wl_wsL_law_r6 : ∀ w ∈ wsL_law_r6, w ∈ lw_tbl := tb_lr _ [2050, 2053, 2054, 2055, 2056, 2063, 2064, 2061, 2062, 2098, 2099, 2100, 2101, 2106, 2107, 2108, 2104, 2105, 5241, 5242, 5243, 5244, 5246, 5249] (by decide +kernel)
set_option maxRecDepth 20000 in
theorem wl_wsL_law_r7 : ∀ w ∈ wsL_law_r7, w ∈ lw_tbl := tb_lr _ [5250, 5251, 5252, 5257, 5258, 5259, 5267, 5269, 5271, 5272, 5273, 5274, 5275, 5276, 5277, 5278, 5245, 5279, 5280, 5281, 5282, 5283, 5285, 5286] (by decide +kernel)
set_option maxRecDepth 20000 in
theorem wl_wsL_law_r8 : ∀ w ∈ wsL_law_r8, w ∈ lw_tbl := tb_lr _ [6157, 5287, 2207, 2208, 2209, 2210, 2177, 2211, 2213, 0, 2214, 6158, 6159, 6160, 6161, 5247, 6162, 6164, 38, 6165, 2215, 2216, 2217, 2218] (by decide +kernel)
set_option maxRecDepth 20000 in
theorem wl_wsL_law_r9 : ∀ w ∈ wsL_law_r9, w ∈ lw_tbl := tb_lr _ [6166, 6167, 6168, 6169, 2219, 2220, 2221, 2222, 1186, 1074, 2223, 2225, 1, 2226, 2227, 2228, 2229, 2230, 1183, 1184, 1185, 2231, 2232, 1038] (by decide +kernel)
set_option maxRecDepth 20000 in
theorem wl_wsL_law_r10 : ∀ w ∈ wsL_law_r10, w ∈ lw_tbl := tb_lr _ [2233, 2243, 2244, 2245, 2234, 2235, 2236, 2237, 2238, 2239, 2240, 2241, 2242, 2246, 2247, 2248, 2249, 2250, 2251, 2253, 2254, 2255, 2256, 2257] (by decide +kernel)
set_option maxRecDepth 20000 in
theorem wl_wsL_law_r11 : ∀ w ∈ wsL_law_r11, w ∈ lw_tbl := tb_lr _ [2258, 1039, 2259, 8196, 2260, 2261, 2262, 2263, 2264, 8197, 2266, 2267, 2268, 2269, 2270, 2271, 2272, 2273, 2274, 2275, 1040, 2276, 2277, 2278] (by decide +kernel)
set_option maxRecDepth 20000 in
theorem wl_wsL_law_r12 : ∀ w ∈ wsL_law_r12, w ∈ lw_tbl := tb_lr _ [2279, 2280, 2282, 2283, 1041, 2284, 2285, 2286, 1042, 2287, 3072, 3073, 3074, 3075, 3076, 3077, 3078, 3079, 3080, 3081, 3082, 3084, 3086, 3093] (by decide +kernel)
set_option maxRecDepth 20000 in
theorem wl_wsL_law_r13 : ∀ w ∈ wsL_law_r13, w ∈ lw_tbl := tb_lr _ [3094, 3095, 3104, 3105, 3106, 3116, 3117, 3118, 3119, 3120, 3121, 3122, 3124, 2, 3125, 3126, 3127, 3128, 3129, 1207, 1208, 3130, 3131, 3132] (by decide +kernel)
set_option maxRecDepth 20000 in
theorem wl_wsL_law_r14 : ∀ w ∈ wsL_law_r14, w ∈ lw_tbl := tb_lr _ [3134, 3, 3135, 1073, 1077, 1081, 3136, 3137, 3138, 3139, 3140, 3141, 3142, 3143, 3144, 3146, 4, 3147, 1084, 3148, 3149, 3150, 3151, 3152] (by decide +kernel)
set_option maxRecDepth 20000 in
theorem wl_wsL_law_r15 : ∀ w ∈ wsL_law_r15, w ∈ lw_tbl := tb_lr _ [3154, 5, 3155, 3156, 3157, 3158, 3159, 3160, 3162, 6, 3163, 1088, 1091, 3164, 3166, 7, 3167, 1094, 3168, 3170, 8, 3171, 1098, 1101] (by decide +kernel)
set_option maxRecDepth 20000 in
theorem wl_wsL_law_r16 : ∀ w ∈ wsL_law_r16, w ∈ lw_tbl := tb_lr _ [3172, 3173, 3174, 3175, 3176, 3177, 3178, 3179, 1128, 3180, 3181, 3182, 3183, 1158, 6336, 6337, 6338, 6339, 5263, 5253, 5254, 5255, 5256, 5261] (by decide +kernel)
set_option maxRecDepth 20000 in
theorem wl_wsL_law_r17 : ∀ w ∈ wsL_law_r17, w ∈ lw_tbl := tb_lr _ [6275, 6174, 6176, 39, 6177, 5266, 5260, 5264, 6178, 6180, 40, 6181, 6182, 6184, 41, 6185, 6186, 6188, 42, 6189, 6190, 6199, 6200, 6201] (by decide +kernel)
set_option maxRecDepth 20000 in
theorem wl_wsL_law_r18 : ∀ w ∈ wsL_law_r18, w ∈ lw_tbl := tb_lr _ [6202, 6203, 6191, 6193, 43, 6194, 6195, 6197, 44, 6198, 6204, 6206, 45, 6207, 6208, 6209, 6210, 6211, 6212, 6214, 46, 6215, 6216, 6218] (by decide +kernel)
set_option maxRecDepth 20000 in
theorem wl_wsL_law_r19 : ∀ w ∈ wsL_law_r19, w ∈ lw_tbl := tb_lr _ [47, 6219, 6220, 6222, 48, 6223, 5262, 6224, 6226, 49, 6227, 6228, 6230, 50, 6231, 6232, 6234, 51, 6235, 6236, 6237, 6238, 6239, 6241] (by decide +kernel)
set_option maxRecDepth 20000 in
theorem wl_wsL_law_r20 : ∀ w ∈ wsL_law_r20, w ∈ lw_tbl := tb_lr _ [52, 6242, 6243, 6245, 53, 6246, 6247, 6249, 54, 6250, 6251, 6253, 55, 6254, 6255, 6257, 56, 6258, 6259, 6261, 57, 6262, 6297, 6263] (by decide +kernel)
set_option maxRecDepth 20000 in
theorem wl_wsL_law_r21 : ∀ w ∈ wsL_law_r21, w ∈ lw_tbl := tb_lr _ [6265, 58, 6266, 6267, 6269, 59, 6270, 6271, 6273, 60, 6274, 6276, 6278, 61, 6279, 6280, 6282, 62, 6283, 6284, 6286, 63, 6287, 6288] (by decide +kernel)
set_option maxRecDepth 20000 in
theorem wl_wsL_law_r22 : ∀ w ∈ wsL_law_r22, w ∈ lw_tbl := tb_lr _ [6289, 6290, 6291, 6292, 6293, 6294, 6295, 6296, 6298, 6300, 64, 6301, 6302, 6304, 65, 6305, 5268, 5265, 6334, 6335, 6306, 6308, 66, 6309] (by decide +kernel)
set_option maxRecDepth 20000 in
theorem wl_wsL_law_r23 : ∀ w ∈ wsL_law_r23, w ∈ lw_tbl := tb_lr _ [6310, 6311, 6313, 67, 6314, 6315, 6317, 68, 6318, 6319, 6321, 69, 6322, 6323, 6325, 70, 6326, 6327, 6328, 6329, 6330, 6332, 71, 6333] (by decide +kernel)
set_option maxRecDepth 20000 in
theorem wl_wsL_law_r24 : ∀ w ∈ wsL_law_r24, w ∈ lw_tbl := tb_lr _ [3184, 3185, 3186, 3187, 2179, 3188, 3189, 3190, 3191, 1227, 1228, 3228, 3229, 1043, 3192, 3194, 9, 3195, 3196, 3197, 3198, 3199, 3201, 10] (by decide +kernel)
