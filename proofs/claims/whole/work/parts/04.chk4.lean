set_option maxRecDepth 100000 in
theorem sm_k161_0 : sm_okt sm_m161.2.1 sm_m161.2.2.2.2.1 sm_t161_0 = true := by decide +kernel
set_option maxRecDepth 100000 in
theorem sm_k161_1 : sm_okt sm_m161.2.1 sm_m161.2.2.2.2.1 sm_t161_1 = true := by decide +kernel
set_option maxRecDepth 100000 in
theorem sm_k161 : sm_okm sm_m161 = true := sm_oka sm_k161_0 (sm_k161_1)
set_option maxRecDepth 100000 in
theorem sm_k162 : sm_okm sm_m162 = true := by decide +kernel
set_option maxRecDepth 100000 in
theorem sm_k163 : sm_okm sm_m163 = true := by decide +kernel
set_option maxRecDepth 100000 in
theorem sm_k164 : sm_okm sm_m164 = true := by decide +kernel
set_option maxRecDepth 100000 in
theorem sm_k165 : sm_okm sm_m165 = true := by decide +kernel
set_option maxRecDepth 100000 in
theorem sm_k166 : sm_okm sm_m166 = true := by decide +kernel
set_option maxRecDepth 100000 in
theorem sm_k167 : sm_okm sm_m167 = true := by decide +kernel
set_option maxRecDepth 100000 in
theorem sm_k168 : sm_okm sm_m168 = true := by decide +kernel
set_option maxRecDepth 100000 in
theorem sm_k169 : sm_okm sm_m169 = true := by decide +kernel
set_option maxRecDepth 100000 in
theorem sm_k170 : sm_okm sm_m170 = true := by decide +kernel
set_option maxRecDepth 100000 in
theorem sm_k171 : sm_okm sm_m171 = true := by decide +kernel
set_option maxRecDepth 100000 in
theorem sm_k172 : sm_okm sm_m172 = true := by decide +kernel
set_option maxRecDepth 100000 in
theorem sm_k173 : sm_okm sm_m173 = true := by decide +kernel
set_option maxRecDepth 100000 in
theorem sm_k174 : sm_okm sm_m174 = true := by decide +kernel
set_option maxRecDepth 100000 in
theorem sm_k175 : sm_okm sm_m175 = true := by decide +kernel
set_option maxRecDepth 100000 in
theorem sm_k176_0 : sm_okt sm_m176.2.1 sm_m176.2.2.2.2.1 sm_t176_0 = true := by decide +kernel
set_option maxRecDepth 100000 in
theorem sm_k176_1 : sm_okt sm_m176.2.1 sm_m176.2.2.2.2.1 sm_t176_1 = true := by decide +kernel
set_option maxRecDepth 100000 in
theorem sm_k176 : sm_okm sm_m176 = true := sm_oka sm_k176_0 (sm_k176_1)
set_option maxRecDepth 100000 in
theorem sm_k177 : sm_okm sm_m177 = true := by decide +kernel
set_option maxRecDepth 100000 in
theorem sm_k178 : sm_okm sm_m178 = true := by decide +kernel
set_option maxRecDepth 100000 in
theorem sm_k179 : sm_okm sm_m179 = true := by decide +kernel
set_option maxRecDepth 100000 in
theorem sm_k180 : sm_okm sm_m180 = true := by decide +kernel
set_option maxRecDepth 100000 in
theorem sm_k181_0 : sm_okt sm_m181.2.1 sm_m181.2.2.2.2.1 sm_t181_0 = true := by decide +kernel
set_option maxRecDepth 100000 in
theorem sm_k181_1 : sm_okt sm_m181.2.1 sm_m181.2.2.2.2.1 sm_t181_1 = true := by decide +kernel
set_option maxRecDepth 100000 in
theorem sm_k181 : sm_okm sm_m181 = true := sm_oka sm_k181_0 (sm_k181_1)
set_option maxRecDepth 100000 in
theorem sm_k182 : sm_okm sm_m182 = true := by decide +kernel
set_option maxRecDepth 100000 in
theorem sm_k183_0 : sm_okt sm_m183.2.1 sm_m183.2.2.2.2.1 sm_t183_0 = true := by decide +kernel
set_option maxRecDepth 100000 in
theorem sm_k183_1 : sm_okt sm_m183.2.1 sm_m183.2.2.2.2.1 sm_t183_1 = true := by decide +kernel
set_option maxRecDepth 100000 in
theorem sm_k183 : sm_okm sm_m183 = true := sm_oka sm_k183_0 (sm_k183_1)
set_option maxRecDepth 100000 in
theorem sm_k184 : sm_okm sm_m184 = true := by decide +kernel
set_option maxRecDepth 100000 in
theorem sm_k185 : sm_okm sm_m185 = true := by decide +kernel
set_option maxRecDepth 100000 in
theorem sm_k186 : sm_okm sm_m186 = true := by decide +kernel
set_option maxRecDepth 100000 in
theorem sm_k187 : sm_okm sm_m187 = true := by decide +kernel
set_option maxRecDepth 100000 in
theorem sm_k188 : sm_okm sm_m188 = true := by decide +kernel
set_option maxRecDepth 100000 in
theorem sm_k189_0 : sm_okt sm_m189.2.1 sm_m189.2.2.2.2.1 sm_t189_0 = true := by decide +kernel
set_option maxRecDepth 100000 in
theorem sm_k189_1 : sm_okt sm_m189.2.1 sm_m189.2.2.2.2.1 sm_t189_1 = true := by decide +kernel
set_option maxRecDepth 100000 in
theorem sm_k189 : sm_okm sm_m189 = true := sm_oka sm_k189_0 (sm_k189_1)
set_option maxRecDepth 100000 in
theorem sm_k190 : sm_okm sm_m190 = true := by decide +kernel
set_option maxRecDepth 100000 in
theorem sm_k191 : sm_okm sm_m191 = true := by decide +kernel
set_option maxRecDepth 100000 in
theorem sm_k192 : sm_okm sm_m192 = true := by decide +kernel
set_option maxRecDepth 100000 in
theorem sm_k193 : sm_okm sm_m193 = true := by decide +kernel
set_option maxRecDepth 100000 in
theorem sm_k194_0 : sm_okt sm_m194.2.1 sm_m194.2.2.2.2.1 sm_t194_0 = true := by decide +kernel
set_option maxRecDepth 100000 in
theorem sm_k194_1 : sm_okt sm_m194.2.1 sm_m194.2.2.2.2.1 sm_t194_1 = true := by decide +kernel
set_option maxRecDepth 100000 in
theorem sm_k194 : sm_okm sm_m194 = true := sm_oka sm_k194_0 (sm_k194_1)
set_option maxRecDepth 100000 in
theorem sm_k195 : sm_okm sm_m195 = true := by decide +kernel
set_option maxRecDepth 100000 in
theorem sm_k196 : sm_okm sm_m196 = true := by decide +kernel
