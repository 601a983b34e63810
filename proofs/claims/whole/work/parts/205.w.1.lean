set_option maxRecDepth 20000 in
theorem wl_wsL_law_r25 : ∀ w ∈ wsL_law_r25, w ∈ lw_tbl := tb_lr _ [3202, 3203, 3205, 11, 3206, 3207, 3208, 3210, 12, 3211, 3212, 3214, 13, 3215, 3216, 3218, 14, 3219, 3220, 3222, 15, 3223, 3224, 3226] (by decide +kernel)
set_option maxRecDepth 20000 in
theorem wl_wsL_law_r26 : ∀ w ∈ wsL_law_r26, w ∈ lw_tbl := tb_lr _ [16, 3227, 3230, 3231, 3232, 3233, 3234, 3235, 3236, 3237, 3239, 3240, 3241, 3243, 3242, 1044, 3244, 3245, 3246, 3247, 3248, 3250, 3252, 3254] (by decide +kernel)
set_option maxRecDepth 20000 in
theorem wl_wsL_law_r27 : ∀ w ∈ wsL_law_r27, w ∈ lw_tbl := tb_lr _ [3256, 6170, 6171, 6172, 6173, 5248, 3269, 3270, 3271, 3272, 1155, 3280, 3273, 3274, 3275, 3276, 3277, 3278, 3279, 3281, 3282, 3283, 3284, 1089] (by decide +kernel)
set_option maxRecDepth 20000 in
theorem wl_wsL_law_r28 : ∀ w ∈ wsL_law_r28, w ∈ lw_tbl := tb_lr _ [3285, 3286, 3287, 3288, 1092, 6340, 6341, 6342, 6343, 6351, 6352, 6344, 6346, 72, 6347, 6348, 6349, 6350, 6353, 6355, 73, 6356, 6357, 6359] (by decide +kernel)
set_option maxRecDepth 20000 in
theorem wl_wsL_law_r29 : ∀ w ∈ wsL_law_r29, w ∈ lw_tbl := tb_lr _ [74, 6360, 3289, 3290, 3291, 3292, 1132, 1127, 1095, 3293, 3295, 17, 3296, 3297, 3298, 3299, 3300, 3301, 3302, 1038, 3303, 3304, 3305, 3306] (by decide +kernel)
set_option maxRecDepth 20000 in
theorem wl_wsL_law_r30 : ∀ w ∈ wsL_law_r30, w ∈ lw_tbl := tb_lr _ [3307, 3308, 3309, 3310, 3311, 4096, 4097, 4098, 4099, 4101, 4102, 4103, 4100, 4104, 4105, 4106, 4107, 4108, 1096, 4109, 4110, 4111, 4112, 4113] (by decide +kernel)
set_option maxRecDepth 20000 in
theorem wl_wsL_law_r31 : ∀ w ∈ wsL_law_r31, w ∈ lw_tbl := tb_lr _ [1075, 4114, 4115, 4116, 4117, 4118, 6361, 6362, 6363, 6364, 6365, 6366, 6368, 75, 6369, 6370, 6372, 76, 6373, 6374, 6375, 6376, 6377, 6379] (by decide +kernel)
set_option maxRecDepth 20000 in
theorem wl_wsL_law_r32 : ∀ w ∈ wsL_law_r32, w ∈ lw_tbl := tb_lr _ [77, 6380, 6381, 6383, 78, 7168, 7169, 7171, 79, 7172, 4119, 4120, 4121, 4122, 4123, 4124, 4125, 4126, 4127, 4128, 4129, 4130, 7173, 7174] (by decide +kernel)
set_option maxRecDepth 20000 in
theorem wl_wsL_law_r33 : ∀ w ∈ wsL_law_r33, w ∈ lw_tbl := tb_lr _ [7175, 7176, 7177, 7178, 7179, 4131, 4132, 4133, 4134, 1079, 4135, 4136, 4137, 4138, 7180, 7181, 7182, 7183, 7184, 7186, 80, 7187, 4139, 4140] (by decide +kernel)
set_option maxRecDepth 20000 in
theorem wl_wsL_law_r34 : ∀ w ∈ wsL_law_r34, w ∈ lw_tbl := tb_lr _ [4141, 4142, 4143, 4144, 4145, 4146, 4147, 7188, 7189, 7190, 7191, 7192, 7194, 81, 7195, 7196, 7197, 7198, 4148, 4149, 4150, 4151, 4152, 4154] (by decide +kernel)
set_option maxRecDepth 20000 in
theorem wl_wsL_law_r35 : ∀ w ∈ wsL_law_r35, w ∈ lw_tbl := tb_lr _ [18, 4155, 4156, 4158, 19, 4159, 4160, 4162, 20, 4163, 4164, 4165, 4166, 4167, 1129, 4168, 4169, 4170, 4171, 4172, 4173, 4175, 21, 4176] (by decide +kernel)
set_option maxRecDepth 20000 in
theorem wl_wsL_law_r36 : ∀ w ∈ wsL_law_r36, w ∈ lw_tbl := tb_lr _ [4177, 4178, 4179, 4180, 1125, 1076, 4181, 4182, 4183, 4184, 4186, 22, 4187, 1130, 4188, 4189, 4190, 4191, 4192, 4193, 4194, 4195, 4196, 4197] (by decide +kernel)
set_option maxRecDepth 20000 in
theorem wl_wsL_law_r37 : ∀ w ∈ wsL_law_r37, w ∈ lw_tbl := tb_lr _ [4198, 4200, 23, 4201, 3249, 3251, 3257, 3255, 3253, 4202, 4204, 24, 4205, 4206, 4207, 4209, 25, 4210, 4211, 4212, 4213, 4214, 4216, 26] (by decide +kernel)
set_option maxRecDepth 20000 in
theorem wl_wsL_law_r38 : ∀ w ∈ wsL_law_r38, w ∈ lw_tbl := tb_lr _ [4217, 4218, 4219, 4220, 4221, 4222, 4223, 4224, 4225, 4226, 4227, 4228, 4229, 4230, 4231, 4232, 4233, 1085, 1099, 1102, 7199, 7200, 7201, 7202] (by decide +kernel)
set_option maxRecDepth 20000 in
theorem wl_wsL_law_r39 : ∀ w ∈ wsL_law_r39, w ∈ lw_tbl := tb_lr _ [7211, 7203, 7205, 82, 7206, 7207, 7209, 83, 7210, 7212, 7214, 84, 7215, 7216, 7218, 85, 7219, 7220, 7222, 86, 7223, 7224, 7226, 87] (by decide +kernel)
set_option maxRecDepth 20000 in
theorem wl_wsL_law_r40 : ∀ w ∈ wsL_law_r40, w ∈ lw_tbl := tb_lr _ [7227, 7228, 7230, 88, 7231, 7232, 7234, 89, 7235, 7236, 7238, 90, 7239, 5270, 7240, 7242, 91, 7243, 7244, 7246, 92, 7247, 7248, 7249] (by decide +kernel)
set_option maxRecDepth 20000 in
theorem wl_wsL_law_r41 : ∀ w ∈ wsL_law_r41, w ∈ lw_tbl := tb_lr _ [7250, 7251, 7253, 93, 7254, 7255, 7257, 94, 7258, 7259, 7261, 95, 7262, 7263, 7265, 96, 7266, 4234, 4235, 4236, 4237, 4238, 4239, 4240] (by decide +kernel)
set_option maxRecDepth 20000 in
theorem wl_wsL_law_r42 : ∀ w ∈ wsL_law_r42, w ∈ lw_tbl := tb_lr _ [4241, 4242, 4243, 4244, 4245, 4246, 4247, 4248, 4249, 4250, 1082, 4251, 4252, 4253, 7267, 7268, 7269, 7270, 7271, 7273, 97, 7274, 7275, 7277] (by decide +kernel)
set_option maxRecDepth 20000 in
theorem wl_wsL_law_r43 : ∀ w ∈ wsL_law_r43, w ∈ lw_tbl := tb_lr _ [98, 7278, 4254, 4255, 4256, 4257, 4258, 4259, 4260, 4261, 1153, 4262, 4263, 4264, 4265, 4266, 4267, 7279, 7280, 7281, 7282, 7283, 7284, 7285] (by decide +kernel)
set_option maxRecDepth 20000 in
theorem wl_wsL_law_r44 : ∀ w ∈ wsL_law_r44, w ∈ lw_tbl := tb_lr _ [7287, 99, 7288, 7289, 7291, 100, 7292, 4268, 4269, 4270, 4271, 2145, 2147, 4272, 4273, 4274, 4275, 2152, 2144, 2146, 4276, 4277, 4278, 4279] (by decide +kernel)
set_option maxRecDepth 20000 in
theorem wl_wsL_law_r45 : ∀ w ∈ wsL_law_r45, w ∈ lw_tbl := tb_lr _ [4280, 4281, 4282, 4284, 27, 4285, 7293, 7294, 7295, 7296, 7297, 7299, 101, 7300, 7301, 7303, 102, 7304, 7305, 7307, 103, 7308, 4286, 4287] (by decide +kernel)
set_option maxRecDepth 20000 in
theorem wl_wsL_law_r46 : ∀ w ∈ wsL_law_r46, w ∈ lw_tbl := tb_lr _ [4288, 4289, 4290, 4291, 4292, 4293, 2150, 4294, 2151, 4295, 4296, 4297, 4298, 4299, 4301, 28, 4302, 7309, 7310, 7311, 7312, 7313, 4303, 4304] (by decide +kernel)
set_option maxRecDepth 20000 in
theorem wl_wsL_law_r47 : ∀ w ∈ wsL_law_r47, w ∈ lw_tbl := tb_lr _ [4305, 4306, 2139, 2058, 2060, 4307, 4309, 29, 4310, 4311, 4312, 4313, 4314, 2069, 2068, 2070, 4315, 4317, 30, 4318, 2065, 2067, 2066, 2057] (by decide +kernel)
set_option maxRecDepth 20000 in
theorem wl_wsL_law_r48 : ∀ w ∈ wsL_law_r48, w ∈ lw_tbl := tb_lr _ [2059, 1154, 4319, 4320, 4322, 31, 4323, 1131, 1126, 1078, 5122, 5123, 4324, 4325, 4327, 32, 4328, 4329, 4330, 4332, 33, 4333, 4334, 4335] (by decide +kernel)
