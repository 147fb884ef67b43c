set_option maxRecDepth 100000 in
theorem sm_k107_0 : sm_okt sm_m107.2.1 sm_m107.2.2.2.2.1 sm_t107_0 = true := by decide +kernel
set_option maxRecDepth 100000 in
theorem sm_k107_1 : sm_okt sm_m107.2.1 sm_m107.2.2.2.2.1 sm_t107_1 = true := by decide +kernel
set_option maxRecDepth 100000 in
theorem sm_k107 : sm_okm sm_m107 = true := sm_oka sm_k107_0 (sm_k107_1)
set_option maxRecDepth 100000 in
theorem sm_k108 : sm_okm sm_m108 = true := by decide +kernel
set_option maxRecDepth 100000 in
theorem sm_k109_0 : sm_okt sm_m109.2.1 sm_m109.2.2.2.2.1 sm_t109_0 = true := by decide +kernel
set_option maxRecDepth 100000 in
theorem sm_k109_1 : sm_okt sm_m109.2.1 sm_m109.2.2.2.2.1 sm_t109_1 = true := by decide +kernel
set_option maxRecDepth 100000 in
theorem sm_k109 : sm_okm sm_m109 = true := sm_oka sm_k109_0 (sm_k109_1)
set_option maxRecDepth 100000 in
theorem sm_k110 : sm_okm sm_m110 = true := by decide +kernel
set_option maxRecDepth 100000 in
theorem sm_k111 : sm_okm sm_m111 = true := by decide +kernel
set_option maxRecDepth 100000 in
theorem sm_k112 : sm_okm sm_m112 = true := by decide +kernel
set_option maxRecDepth 100000 in
theorem sm_k113 : sm_okm sm_m113 = true := by decide +kernel
set_option maxRecDepth 100000 in
theorem sm_k114 : sm_okm sm_m114 = true := by decide +kernel
set_option maxRecDepth 100000 in
theorem sm_k115 : sm_okm sm_m115 = true := by decide +kernel
set_option maxRecDepth 100000 in
theorem sm_k116 : sm_okm sm_m116 = true := by decide +kernel
set_option maxRecDepth 100000 in
theorem sm_k117 : sm_okm sm_m117 = true := by decide +kernel
set_option maxRecDepth 100000 in
theorem sm_k118 : sm_okm sm_m118 = true := by decide +kernel
set_option maxRecDepth 100000 in
theorem sm_k119 : sm_okm sm_m119 = true := by decide +kernel
set_option maxRecDepth 100000 in
theorem sm_k120 : sm_okm sm_m120 = true := by decide +kernel
set_option maxRecDepth 100000 in
theorem sm_k121 : sm_okm sm_m121 = true := by decide +kernel
set_option maxRecDepth 100000 in
theorem sm_k122 : sm_okm sm_m122 = true := by decide +kernel
set_option maxRecDepth 100000 in
theorem sm_k123 : sm_okm sm_m123 = true := by decide +kernel
set_option maxRecDepth 100000 in
theorem sm_k124 : sm_okm sm_m124 = true := by decide +kernel
set_option maxRecDepth 100000 in
theorem sm_k125 : sm_okm sm_m125 = true := by decide +kernel
set_option maxRecDepth 100000 in
theorem sm_k126 : sm_okm sm_m126 = true := by decide +kernel
set_option maxRecDepth 100000 in
theorem sm_k127 : sm_okm sm_m127 = true := by decide +kernel
set_option maxRecDepth 100000 in
theorem sm_k128 : sm_okm sm_m128 = true := by decide +kernel
set_option maxRecDepth 100000 in
theorem sm_k129 : sm_okm sm_m129 = true := by decide +kernel
set_option maxRecDepth 100000 in
theorem sm_k130 : sm_okm sm_m130 = true := by decide +kernel
set_option maxRecDepth 100000 in
theorem sm_k131 : sm_okm sm_m131 = true := by decide +kernel
set_option maxRecDepth 100000 in
theorem sm_k132 : sm_okm sm_m132 = true := by decide +kernel
set_option maxRecDepth 100000 in
theorem sm_k133 : sm_okm sm_m133 = true := by decide +kernel
set_option maxRecDepth 100000 in
theorem sm_k134 : sm_okm sm_m134 = true := by decide +kernel
set_option maxRecDepth 100000 in
theorem sm_k135 : sm_okm sm_m135 = true := by decide +kernel
set_option maxRecDepth 100000 in
theorem sm_k136 : sm_okm sm_m136 = true := by decide +kernel
set_option maxRecDepth 100000 in
theorem sm_k137 : sm_okm sm_m137 = true := by decide +kernel
set_option maxRecDepth 100000 in
theorem sm_k138 : sm_okm sm_m138 = true := by decide +kernel
set_option maxRecDepth 100000 in
theorem sm_k139 : sm_okm sm_m139 = true := by decide +kernel
set_option maxRecDepth 100000 in
theorem sm_k140 : sm_okm sm_m140 = true := by decide +kernel
set_option maxRecDepth 100000 in
theorem sm_k141 : sm_okm sm_m141 = true := by decide +kernel
set_option maxRecDepth 100000 in
theorem sm_k142 : sm_okm sm_m142 = true := by decide +kernel
set_option maxRecDepth 100000 in
theorem sm_k143 : sm_okm sm_m143 = true := by decide +kernel
set_option maxRecDepth 100000 in
theorem sm_k144 : sm_okm sm_m144 = true := by decide +kernel
set_option maxRecDepth 100000 in
theorem sm_k145 : sm_okm sm_m145 = true := by decide +kernel
set_option maxRecDepth 100000 in
theorem sm_k146_0 : sm_okt sm_m146.2.1 sm_m146.2.2.2.2.1 sm_t146_0 = true := by decide +kernel
set_option maxRecDepth 100000 in
theorem sm_k146_1 : sm_okt sm_m146.2.1 sm_m146.2.2.2.2.1 sm_t146_1 = true := by decide +kernel
set_option maxRecDepth 100000 in
theorem sm_k146 : sm_okm sm_m146 = true := sm_oka sm_k146_0 (sm_k146_1)
set_option maxRecDepth 100000 in
theorem sm_k147 : sm_okm sm_m147 = true := by decide +kernel
set_option maxRecDepth 100000 in
theorem sm_k148 : sm_okm sm_m148 = true := by decide +kernel
set_option maxRecDepth 100000 in
theorem sm_k149 : sm_okm sm_m149 = true := by decide +kernel
set_option maxRecDepth 100000 in
theorem sm_k150 : sm_okm sm_m150 = true := by decide +kernel
set_option maxRecDepth 100000 in
theorem sm_k151_0 : sm_okt sm_m151.2.1 sm_m151.2.2.2.2.1 sm_t151_0 = true := by decide +kernel
set_option maxRecDepth 100000 in
theorem sm_k151_1 : sm_okt sm_m151.2.1 sm_m151.2.2.2.2.1 sm_t151_1 = true := by decide +kernel
set_option maxRecDepth 100000 in
theorem sm_k151 : sm_okm sm_m151 = true := sm_oka sm_k151_0 (sm_k151_1)
set_option maxRecDepth 100000 in
theorem sm_k152_0 : sm_okt sm_m152.2.1 sm_m152.2.2.2.2.1 sm_t152_0 = true := by decide +kernel
set_option maxRecDepth 100000 in
theorem sm_k152_1 : sm_okt sm_m152.2.1 sm_m152.2.2.2.2.1 sm_t152_1 = true := by decide +kernel
set_option maxRecDepth 100000 in
theorem sm_k152 : sm_okm sm_m152 = true := sm_oka sm_k152_0 (sm_k152_1)
set_option maxRecDepth 100000 in
theorem sm_k153 : sm_okm sm_m153 = true := by decide +kernel
set_option maxRecDepth 100000 in
theorem sm_k154 : sm_okm sm_m154 = true := by decide +kernel
set_option maxRecDepth 100000 in
theorem sm_k155 : sm_okm sm_m155 = true := by decide +kernel
set_option maxRecDepth 100000 in
theorem sm_k156 : sm_okm sm_m156 = true := by decide +kernel
set_option maxRecDepth 100000 in
theorem sm_k157 : sm_okm sm_m157 = true := by decide +kernel
set_option maxRecDepth 100000 in
theorem sm_k158 : sm_okm sm_m158 = true := by decide +kernel
set_option maxRecDepth 100000 in
theorem sm_k159 : sm_okm sm_m159 = true := by decide +kernel
set_option maxRecDepth 100000 in
theorem sm_k160 : sm_okm sm_m160 = true := by decide +kernel
