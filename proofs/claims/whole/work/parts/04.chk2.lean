set_option maxRecDepth 100000 in
theorem sm_k60 : sm_okm sm_m60 = true := by decide +kernel
set_option maxRecDepth 100000 in
theorem sm_k61 : sm_okm sm_m61 = true := by decide +kernel
set_option maxRecDepth 100000 in
theorem sm_k62 : sm_okm sm_m62 = true := by decide +kernel
set_option maxRecDepth 100000 in
theorem sm_k63 : sm_okm sm_m63 = true := by decide +kernel
set_option maxRecDepth 100000 in
theorem sm_k64 : sm_okm sm_m64 = true := by decide +kernel
set_option maxRecDepth 100000 in
theorem sm_k65 : sm_okm sm_m65 = true := by decide +kernel
set_option maxRecDepth 100000 in
theorem sm_k66 : sm_okm sm_m66 = true := by decide +kernel
set_option maxRecDepth 100000 in
theorem sm_k67 : sm_okm sm_m67 = true := by decide +kernel
set_option maxRecDepth 100000 in
theorem sm_k68 : sm_okm sm_m68 = true := by decide +kernel
set_option maxRecDepth 100000 in
theorem sm_k69 : sm_okm sm_m69 = true := by decide +kernel
set_option maxRecDepth 100000 in
theorem sm_k70 : sm_okm sm_m70 = true := by decide +kernel
set_option maxRecDepth 100000 in
theorem sm_k71 : sm_okm sm_m71 = true := by decide +kernel
set_option maxRecDepth 100000 in
theorem sm_k72 : sm_okm sm_m72 = true := by decide +kernel
set_option maxRecDepth 100000 in
theorem sm_k73 : sm_okm sm_m73 = true := by decide +kernel
set_option maxRecDepth 100000 in
theorem sm_k74 : sm_okm sm_m74 = true := by decide +kernel
set_option maxRecDepth 100000 in
theorem sm_k75_0 : sm_okt sm_m75.2.1 sm_m75.2.2.2.2.1 sm_t75_0 = true := by decide +kernel
set_option maxRecDepth 100000 in
theorem sm_k75_1 : sm_okt sm_m75.2.1 sm_m75.2.2.2.2.1 sm_t75_1 = true := by decide +kernel
set_option maxRecDepth 100000 in
theorem sm_k75_2 : sm_okt sm_m75.2.1 sm_m75.2.2.2.2.1 sm_t75_2 = true := by decide +kernel
set_option maxRecDepth 100000 in
theorem sm_k75 : sm_okm sm_m75 = true := sm_oka sm_k75_0 (sm_oka sm_k75_1 (sm_k75_2))
set_option maxRecDepth 100000 in
theorem sm_k76 : sm_okm sm_m76 = true := by decide +kernel
set_option maxRecDepth 100000 in
theorem sm_k77 : sm_okm sm_m77 = true := by decide +kernel
set_option maxRecDepth 100000 in
theorem sm_k78 : sm_okm sm_m78 = true := by decide +kernel
set_option maxRecDepth 100000 in
theorem sm_k79 : sm_okm sm_m79 = true := by decide +kernel
set_option maxRecDepth 100000 in
theorem sm_k80 : sm_okm sm_m80 = true := by decide +kernel
set_option maxRecDepth 100000 in
theorem sm_k81 : sm_okm sm_m81 = true := by decide +kernel
set_option maxRecDepth 100000 in
theorem sm_k82_0 : sm_okt sm_m82.2.1 sm_m82.2.2.2.2.1 sm_t82_0 = true := by decide +kernel
set_option maxRecDepth 100000 in
theorem sm_k82_1 : sm_okt sm_m82.2.1 sm_m82.2.2.2.2.1 sm_t82_1 = true := by decide +kernel
set_option maxRecDepth 100000 in
theorem sm_k82 : sm_okm sm_m82 = true := sm_oka sm_k82_0 (sm_k82_1)
set_option maxRecDepth 100000 in
theorem sm_k83_0 : sm_okt sm_m83.2.1 sm_m83.2.2.2.2.1 sm_t83_0 = true := by decide +kernel
set_option maxRecDepth 100000 in
theorem sm_k83_1 : sm_okt sm_m83.2.1 sm_m83.2.2.2.2.1 sm_t83_1 = true := by decide +kernel
set_option maxRecDepth 100000 in
theorem sm_k83 : sm_okm sm_m83 = true := sm_oka sm_k83_0 (sm_k83_1)
set_option maxRecDepth 100000 in
theorem sm_k84 : sm_okm sm_m84 = true := by decide +kernel
set_option maxRecDepth 100000 in
theorem sm_k85 : sm_okm sm_m85 = true := by decide +kernel
set_option maxRecDepth 100000 in
theorem sm_k86 : sm_okm sm_m86 = true := by decide +kernel
set_option maxRecDepth 100000 in
theorem sm_k87 : sm_okm sm_m87 = true := by decide +kernel
set_option maxRecDepth 100000 in
theorem sm_k88 : sm_okm sm_m88 = true := by decide +kernel
set_option maxRecDepth 100000 in
theorem sm_k89 : sm_okm sm_m89 = true := by decide +kernel
set_option maxRecDepth 100000 in
theorem sm_k90 : sm_okm sm_m90 = true := by decide +kernel
set_option maxRecDepth 100000 in
theorem sm_k91 : sm_okm sm_m91 = true := by decide +kernel
set_option maxRecDepth 100000 in
theorem sm_k92 : sm_okm sm_m92 = true := by decide +kernel
set_option maxRecDepth 100000 in
theorem sm_k93 : sm_okm sm_m93 = true := by decide +kernel
set_option maxRecDepth 100000 in
theorem sm_k94 : sm_okm sm_m94 = true := by decide +kernel
set_option maxRecDepth 100000 in
theorem sm_k95 : sm_okm sm_m95 = true := by decide +kernel
set_option maxRecDepth 100000 in
theorem sm_k96 : sm_okm sm_m96 = true := by decide +kernel
set_option maxRecDepth 100000 in
theorem sm_k97 : sm_okm sm_m97 = true := by decide +kernel
set_option maxRecDepth 100000 in
theorem sm_k98 : sm_okm sm_m98 = true := by decide +kernel
set_option maxRecDepth 100000 in
theorem sm_k99 : sm_okm sm_m99 = true := by decide +kernel
set_option maxRecDepth 100000 in
theorem sm_k100 : sm_okm sm_m100 = true := by decide +kernel
set_option maxRecDepth 100000 in
theorem sm_k101 : sm_okm sm_m101 = true := by decide +kernel
set_option maxRecDepth 100000 in
theorem sm_k102 : sm_okm sm_m102 = true := by decide +kernel
set_option maxRecDepth 100000 in
theorem sm_k103 : sm_okm sm_m103 = true := by decide +kernel
set_option maxRecDepth 100000 in
theorem sm_k104 : sm_okm sm_m104 = true := by decide +kernel
set_option maxRecDepth 100000 in
theorem sm_k105 : sm_okm sm_m105 = true := by decide +kernel
set_option maxRecDepth 100000 in
theorem sm_k106_0 : sm_okt sm_m106.2.1 sm_m106.2.2.2.2.1 sm_t106_0 = true := by decide +kernel
set_option maxRecDepth 100000 in
theorem sm_k106_1 : sm_okt sm_m106.2.1 sm_m106.2.2.2.2.1 sm_t106_1 = true := by decide +kernel
set_option maxRecDepth 100000 in
theorem sm_k106 : sm_okm sm_m106 = true := sm_oka sm_k106_0 (sm_k106_1)
