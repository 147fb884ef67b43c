set_option maxRecDepth 100000 in
theorem sm_k228 : sm_okm sm_m228 = true := by decide +kernel
set_option maxRecDepth 100000 in
theorem sm_k229 : sm_okm sm_m229 = true := by decide +kernel
set_option maxRecDepth 100000 in
theorem sm_k230 : sm_okm sm_m230 = true := by decide +kernel
set_option maxRecDepth 100000 in
theorem sm_k231 : sm_okm sm_m231 = true := by decide +kernel
set_option maxRecDepth 100000 in
theorem sm_k232 : sm_okm sm_m232 = true := by decide +kernel
set_option maxRecDepth 100000 in
theorem sm_k233 : sm_okm sm_m233 = true := by decide +kernel
set_option maxRecDepth 100000 in
theorem sm_k234 : sm_okm sm_m234 = true := by decide +kernel
set_option maxRecDepth 100000 in
theorem sm_k235 : sm_okm sm_m235 = true := by decide +kernel
set_option maxRecDepth 100000 in
theorem sm_k236 : sm_okm sm_m236 = true := by decide +kernel
set_option maxRecDepth 100000 in
theorem sm_k237_0 : sm_okt sm_m237.2.1 sm_m237.2.2.2.2.1 sm_t237_0 = true := by decide +kernel
set_option maxRecDepth 100000 in
theorem sm_k237_1 : sm_okt sm_m237.2.1 sm_m237.2.2.2.2.1 sm_t237_1 = true := by decide +kernel
set_option maxRecDepth 100000 in
theorem sm_k237 : sm_okm sm_m237 = true := sm_oka sm_k237_0 (sm_k237_1)
set_option maxRecDepth 100000 in
theorem sm_k238 : sm_okm sm_m238 = true := by decide +kernel
set_option maxRecDepth 100000 in
theorem sm_k239 : sm_okm sm_m239 = true := by decide +kernel
set_option maxRecDepth 100000 in
theorem sm_k240 : sm_okm sm_m240 = true := by decide +kernel
set_option maxRecDepth 100000 in
theorem sm_k241 : sm_okm sm_m241 = true := by decide +kernel
set_option maxRecDepth 100000 in
theorem sm_k242 : sm_okm sm_m242 = true := by decide +kernel
set_option maxRecDepth 100000 in
theorem sm_k243 : sm_okm sm_m243 = true := by decide +kernel
set_option maxRecDepth 100000 in
theorem sm_k244 : sm_okm sm_m244 = true := by decide +kernel
set_option maxRecDepth 100000 in
theorem sm_k245 : sm_okm sm_m245 = true := by decide +kernel
set_option maxRecDepth 100000 in
theorem sm_k246 : sm_okm sm_m246 = true := by decide +kernel
set_option maxRecDepth 100000 in
theorem sm_k247 : sm_okm sm_m247 = true := by decide +kernel
set_option maxRecDepth 100000 in
theorem sm_k248 : sm_okm sm_m248 = true := by decide +kernel
set_option maxRecDepth 100000 in
theorem sm_k249 : sm_okm sm_m249 = true := by decide +kernel
set_option maxRecDepth 100000 in
theorem sm_k250 : sm_okm sm_m250 = true := by decide +kernel
set_option maxRecDepth 100000 in
theorem sm_k251_0 : sm_okt sm_m251.2.1 sm_m251.2.2.2.2.1 sm_t251_0 = true := by decide +kernel
set_option maxRecDepth 100000 in
theorem sm_k251_1 : sm_okt sm_m251.2.1 sm_m251.2.2.2.2.1 sm_t251_1 = true := by decide +kernel
set_option maxRecDepth 100000 in
theorem sm_k251_2 : sm_okt sm_m251.2.1 sm_m251.2.2.2.2.1 sm_t251_2 = true := by decide +kernel
set_option maxRecDepth 100000 in
theorem sm_k251_3 : sm_okt sm_m251.2.1 sm_m251.2.2.2.2.1 sm_t251_3 = true := by decide +kernel
set_option maxRecDepth 100000 in
theorem sm_k251_4 : sm_okt sm_m251.2.1 sm_m251.2.2.2.2.1 sm_t251_4 = true := by decide +kernel
set_option maxRecDepth 100000 in
theorem sm_k251_5 : sm_okt sm_m251.2.1 sm_m251.2.2.2.2.1 sm_t251_5 = true := by decide +kernel
set_option maxRecDepth 100000 in
theorem sm_k251_6 : sm_okt sm_m251.2.1 sm_m251.2.2.2.2.1 sm_t251_6 = true := by decide +kernel
set_option maxRecDepth 100000 in
theorem sm_k251_7 : sm_okt sm_m251.2.1 sm_m251.2.2.2.2.1 sm_t251_7 = true := by decide +kernel
set_option maxRecDepth 100000 in
theorem sm_k251_8 : sm_okt sm_m251.2.1 sm_m251.2.2.2.2.1 sm_t251_8 = true := by decide +kernel
set_option maxRecDepth 100000 in
theorem sm_k251_9 : sm_okt sm_m251.2.1 sm_m251.2.2.2.2.1 sm_t251_9 = true := by decide +kernel
set_option maxRecDepth 100000 in
theorem sm_k251_10 : sm_okt sm_m251.2.1 sm_m251.2.2.2.2.1 sm_t251_10 = true := by decide +kernel
set_option maxRecDepth 100000 in
theorem sm_k251_11 : sm_okt sm_m251.2.1 sm_m251.2.2.2.2.1 sm_t251_11 = true := by decide +kernel
set_option maxRecDepth 100000 in
theorem sm_k251_12 : sm_okt sm_m251.2.1 sm_m251.2.2.2.2.1 sm_t251_12 = true := by decide +kernel
set_option maxRecDepth 100000 in
theorem sm_k251_13 : sm_okt sm_m251.2.1 sm_m251.2.2.2.2.1 sm_t251_13 = true := by decide +kernel
set_option maxRecDepth 100000 in
theorem sm_k251 : sm_okm sm_m251 = true := sm_oka sm_k251_0 (sm_oka sm_k251_1 (sm_oka sm_k251_2 (sm_oka sm_k251_3 (sm_oka sm_k251_4 (sm_oka sm_k251_5 (sm_oka sm_k251_6 (sm_oka sm_k251_7 (sm_oka sm_k251_8 (sm_oka sm_k251_9 (sm_oka sm_k251_10 (sm_oka sm_k251_11 (sm_oka sm_k251_12 (sm_k251_13)))))))))))))
