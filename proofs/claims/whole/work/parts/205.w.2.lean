set_option maxRecDepth 20000 in
theorem wl_wsL_law_r49 : ∀ w ∈ wsL_law_r49, w ∈ lw_tbl := tb_lr _ [5120, 5121, 5124, 5126, 34, 5127, 5128, 5129, 5130, 5131, 5132, 5133, 5134, 7314, 7315, 7316, 7317, 5284, 7318, 7320, 104, 7321, 7322, 7324] rfl
set_option maxRecDepth 20000 in
theorem wl_wsL_law_r50 : ∀ w ∈ wsL_law_r50, w ∈ lw_tbl := tb_lr _ [105, 7325, 7326, 7328, 106, 7329, 7330, 7332, 107, 7333, 7334, 7335, 7336, 7337, 7339, 108, 7340, 7341, 7343, 109, 7344, 7345, 7347, 110] rfl
set_option maxRecDepth 20000 in
theorem wl_wsL_law_r51 : ∀ w ∈ wsL_law_r51, w ∈ lw_tbl := tb_lr _ [7348, 5135, 5136, 5137, 5138, 5139, 5140, 5141, 5142, 7349, 7350, 7351, 7352, 7353, 7354, 5143, 5144, 5145, 5146, 5147, 5148, 5149, 5150, 1080] rfl
set_option maxRecDepth 20000 in
theorem wl_wsL_law_r52 : ∀ w ∈ wsL_law_r52, w ∈ lw_tbl := tb_lr _ [7355, 7356, 7357, 7358, 7359, 7361, 111, 7362, 5151, 5152, 5153, 5154, 5155, 5156, 5157, 5158, 5159, 7363, 7364, 7365, 7366, 7367, 7368, 7369] rfl
set_option maxRecDepth 20000 in
theorem wl_wsL_law_r53 : ∀ w ∈ wsL_law_r53, w ∈ lw_tbl := tb_lr _ [7370, 5160, 5161, 5162, 5163, 2141, 2103, 5164, 5165, 5166, 5167, 2109, 2110, 2111, 5168, 2112, 2113, 2102, 1152, 5169, 5170, 5171, 5173, 35] rfl
set_option maxRecDepth 20000 in
theorem wl_wsL_law_r54 : ∀ w ∈ wsL_law_r54, w ∈ lw_tbl := tb_lr _ [5174, 5175, 5176, 5177, 5178, 5179, 5180, 5181, 5182, 5183, 5185, 36, 5186, 5187, 5188, 5190, 37, 5191, 5192, 5193, 5194, 5195, 5196, 5197] rfl
set_option maxRecDepth 20000 in
theorem wl_wsL_law_r55 : ∀ w ∈ wsL_law_r55, w ∈ lw_tbl := tb_lr _ [5198, 7371, 7372, 7373, 7374, 7375, 7376, 7377, 7378, 7380, 112, 7381, 5199, 5200, 5201, 5202, 1157, 7382, 7383, 7384, 7385, 5203, 5204, 5205] rfl
set_option maxRecDepth 20000 in
theorem wl_wsL_law_r56 : ∀ w ∈ wsL_law_r56, w ∈ lw_tbl := tb_lr _ [5206, 2143, 5207, 5208, 5209, 5210, 2142, 5211, 5212, 5213, 5214, 5215, 7386, 7387, 7388, 7389, 7390, 7391, 7392, 7393, 7394, 7395, 5216, 5217] rfl
set_option maxRecDepth 20000 in
theorem wl_wsL_law_r57 : ∀ w ∈ wsL_law_r57, w ∈ lw_tbl := tb_lr _ [5218, 5219, 7396, 7397, 7398, 7399, 5220, 5221, 5222, 5223, 1086, 1083, 1159, 5224, 7400, 7401, 7402, 7403, 5225, 5226, 5227, 5228, 5229, 5230] rfl
set_option maxRecDepth 20000 in
theorem wl_wsL_law_r58 : ∀ w ∈ wsL_law_r58, w ∈ lw_tbl := tb_lr _ [5231, 5232, 1156, 5234, 5233, 7404, 7405, 7406, 7407, 5235, 5236, 5237, 5238, 8192, 8193, 8194, 8195] rfl
set_option maxRecDepth 20000 in
theorem wl_wsX110 : ∀ w ∈ wsX110, w ∈ lw_tbl := tb_lr _ [2186, 2188, 2190, 2192, 2194, 2196, 2198, 2200, 2202, 2204] rfl
set_option maxRecDepth 20000 in
theorem wl_wsX120 : ∀ w ∈ wsX120, w ∈ lw_tbl := tb_lr _ [5288, 5290, 5292, 5294, 5296, 5298, 5300, 5302, 5304, 5306, 5308, 5310, 5312, 5314, 5316, 5318, 5320, 5322, 5324, 5326, 5328, 5330, 5332, 5334, 5336, 5338, 5340, 5342, 5344, 5346, 5348, 5350, 5352, 5354, 5356, 5358, 6144, 6146, 6148, 6150, 6152, 6154] rfl
set_option maxRecDepth 20000 in
theorem wl_wsX80 : ∀ w ∈ wsX80, w ∈ lw_tbl := tb_lr _ [1162, 1164, 1166, 1168, 1170] rfl
set_option maxRecDepth 20000 in
theorem wl_wsX100 : ∀ w ∈ wsX100, w ∈ lw_tbl := tb_lr _ [1187, 1189, 1191, 1193, 1195, 1197] rfl
set_option maxRecDepth 20000 in
theorem wl_wsX50 : ∀ w ∈ wsX50, w ∈ lw_tbl := tb_lr _ [1209, 1211, 1213] rfl
set_option maxRecDepth 20000 in
theorem wl_wsX70 : ∀ w ∈ wsX70, w ∈ lw_tbl := tb_lr _ [1229, 1231, 1233, 1235, 1237, 1239, 1241] rfl
set_option maxRecDepth 20000 in
theorem wl_wsX00 : ∀ w ∈ wsX00, w ∈ lw_tbl := tb_lr _ [2153, 2155, 2157, 2159, 2161, 2163, 2165, 2167, 2169, 2171, 2173] rfl
set_option maxRecDepth 20000 in
theorem wl_wsX90 : ∀ w ∈ wsX90, w ∈ lw_tbl := tb_lr _ [1136, 1138, 1140, 1142, 1144] rfl
set_option maxRecDepth 20000 in
theorem wl_wsX40 : ∀ w ∈ wsX40, w ∈ lw_tbl := tb_lr _ [1103, 1105, 1107, 1109, 1111, 1113, 1115, 1117, 1119] rfl
set_option maxRecDepth 20000 in
theorem wl_wsX30 : ∀ w ∈ wsX30, w ∈ lw_tbl := tb_lr _ [1258, 1260] rfl
set_option maxRecDepth 20000 in
theorem wl_wsX10 : ∀ w ∈ wsX10, w ∈ lw_tbl := tb_lr _ [2071, 2073, 2075, 2077, 2079, 2081, 2083, 2085, 2087, 2089, 2091, 2093] rfl
set_option maxRecDepth 20000 in
theorem wl_wsX20 : ∀ w ∈ wsX20, w ∈ lw_tbl := tb_lr _ [2114, 2116, 2118, 2120, 2122, 2124, 2126, 2128, 2130, 2132, 2134] rfl
set_option maxRecDepth 20000 in
theorem wl_wsX60 : ∀ w ∈ wsX60, w ∈ lw_tbl := tb_lr _ [3258, 3260, 3262, 3264, 3266] rfl
