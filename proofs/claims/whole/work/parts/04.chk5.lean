set_option maxRecDepth 100000 in
theorem sm_k197_0 : sm_okt sm_m197.2.1 sm_m197.2.2.2.2.1 sm_t197_0 = true := by decide +kernel
set_option maxRecDepth 100000 in
theorem sm_k197_1 : sm_okt sm_m197.2.1 sm_m197.2.2.2.2.1 sm_t197_1 = true := by decide +kernel
set_option maxRecDepth 100000 in
theorem sm_k197 : sm_okm sm_m197 = true := sm_oka sm_k197_0 (sm_k197_1)
set_option maxRecDepth 100000 in
theorem sm_k198 : sm_okm sm_m198 = true := by decide +kernel
set_option maxRecDepth 100000 in
theorem sm_k199 : sm_okm sm_m199 = true := by decide +kernel
set_option maxRecDepth 100000 in
theorem sm_k200 : sm_okm sm_m200 = true := by decide +kernel
set_option maxRecDepth 100000 in
theorem sm_k201 : sm_okm sm_m201 = true := by decide +kernel
set_option maxRecDepth 100000 in
theorem sm_k202_0 : sm_okt sm_m202.2.1 sm_m202.2.2.2.2.1 sm_t202_0 = true := by decide +kernel
set_option maxRecDepth 100000 in
theorem sm_k202_1 : sm_okt sm_m202.2.1 sm_m202.2.2.2.2.1 sm_t202_1 = true := by decide +kernel
set_option maxRecDepth 100000 in
theorem sm_k202 : sm_okm sm_m202 = true := sm_oka sm_k202_0 (sm_k202_1)
set_option maxRecDepth 100000 in
theorem sm_k203 : sm_okm sm_m203 = true := by decide +kernel
set_option maxRecDepth 100000 in
theorem sm_k204_0 : sm_okt sm_m204.2.1 sm_m204.2.2.2.2.1 sm_t204_0 = true := by decide +kernel
set_option maxRecDepth 100000 in
theorem sm_k204_1 : sm_okt sm_m204.2.1 sm_m204.2.2.2.2.1 sm_t204_1 = true := by decide +kernel
set_option maxRecDepth 100000 in
theorem sm_k204 : sm_okm sm_m204 = true := sm_oka sm_k204_0 (sm_k204_1)
set_option maxRecDepth 100000 in
theorem sm_k205 : sm_okm sm_m205 = true := by decide +kernel
set_option maxRecDepth 100000 in
theorem sm_k206 : sm_okm sm_m206 = true := by decide +kernel
set_option maxRecDepth 100000 in
theorem sm_k207 : sm_okm sm_m207 = true := by decide +kernel
set_option maxRecDepth 100000 in
theorem sm_k208_0 : sm_okt sm_m208.2.1 sm_m208.2.2.2.2.1 sm_t208_0 = true := by decide +kernel
set_option maxRecDepth 100000 in
theorem sm_k208_1 : sm_okt sm_m208.2.1 sm_m208.2.2.2.2.1 sm_t208_1 = true := by decide +kernel
set_option maxRecDepth 100000 in
theorem sm_k208 : sm_okm sm_m208 = true := sm_oka sm_k208_0 (sm_k208_1)
set_option maxRecDepth 100000 in
theorem sm_k209_0 : sm_okt sm_m209.2.1 sm_m209.2.2.2.2.1 sm_t209_0 = true := by decide +kernel
set_option maxRecDepth 100000 in
theorem sm_k209_1 : sm_okt sm_m209.2.1 sm_m209.2.2.2.2.1 sm_t209_1 = true := by decide +kernel
set_option maxRecDepth 100000 in
theorem sm_k209 : sm_okm sm_m209 = true := sm_oka sm_k209_0 (sm_k209_1)
set_option maxRecDepth 100000 in
theorem sm_k210_0 : sm_okt sm_m210.2.1 sm_m210.2.2.2.2.1 sm_t210_0 = true := by decide +kernel
set_option maxRecDepth 100000 in
theorem sm_k210_1 : sm_okt sm_m210.2.1 sm_m210.2.2.2.2.1 sm_t210_1 = true := by decide +kernel
set_option maxRecDepth 100000 in
theorem sm_k210 : sm_okm sm_m210 = true := sm_oka sm_k210_0 (sm_k210_1)
set_option maxRecDepth 100000 in
theorem sm_k211 : sm_okm sm_m211 = true := by decide +kernel
set_option maxRecDepth 100000 in
theorem sm_k212_0 : sm_okt sm_m212.2.1 sm_m212.2.2.2.2.1 sm_t212_0 = true := by decide +kernel
set_option maxRecDepth 100000 in
theorem sm_k212_1 : sm_okt sm_m212.2.1 sm_m212.2.2.2.2.1 sm_t212_1 = true := by decide +kernel
set_option maxRecDepth 100000 in
theorem sm_k212 : sm_okm sm_m212 = true := sm_oka sm_k212_0 (sm_k212_1)
set_option maxRecDepth 100000 in
theorem sm_k213_0 : sm_okt sm_m213.2.1 sm_m213.2.2.2.2.1 sm_t213_0 = true := by decide +kernel
set_option maxRecDepth 100000 in
theorem sm_k213_1 : sm_okt sm_m213.2.1 sm_m213.2.2.2.2.1 sm_t213_1 = true := by decide +kernel
set_option maxRecDepth 100000 in
theorem sm_k213 : sm_okm sm_m213 = true := sm_oka sm_k213_0 (sm_k213_1)
set_option maxRecDepth 100000 in
theorem sm_k214_0 : sm_okt sm_m214.2.1 sm_m214.2.2.2.2.1 sm_t214_0 = true := by decide +kernel
set_option maxRecDepth 100000 in
theorem sm_k214_1 : sm_okt sm_m214.2.1 sm_m214.2.2.2.2.1 sm_t214_1 = true := by decide +kernel
set_option maxRecDepth 100000 in
theorem sm_k214 : sm_okm sm_m214 = true := sm_oka sm_k214_0 (sm_k214_1)
set_option maxRecDepth 100000 in
theorem sm_k215 : sm_okm sm_m215 = true := by decide +kernel
set_option maxRecDepth 100000 in
theorem sm_k216 : sm_okm sm_m216 = true := by decide +kernel
set_option maxRecDepth 100000 in
theorem sm_k217 : sm_okm sm_m217 = true := by decide +kernel
set_option maxRecDepth 100000 in
theorem sm_k218_0 : sm_okt sm_m218.2.1 sm_m218.2.2.2.2.1 sm_t218_0 = true := by decide +kernel
set_option maxRecDepth 100000 in
theorem sm_k218_1 : sm_okt sm_m218.2.1 sm_m218.2.2.2.2.1 sm_t218_1 = true := by decide +kernel
set_option maxRecDepth 100000 in
theorem sm_k218 : sm_okm sm_m218 = true := sm_oka sm_k218_0 (sm_k218_1)
set_option maxRecDepth 100000 in
theorem sm_k219 : sm_okm sm_m219 = true := by decide +kernel
set_option maxRecDepth 100000 in
theorem sm_k220 : sm_okm sm_m220 = true := by decide +kernel
set_option maxRecDepth 100000 in
theorem sm_k221 : sm_okm sm_m221 = true := by decide +kernel
set_option maxRecDepth 100000 in
theorem sm_k222 : sm_okm sm_m222 = true := by decide +kernel
set_option maxRecDepth 100000 in
theorem sm_k223 : sm_okm sm_m223 = true := by decide +kernel
set_option maxRecDepth 100000 in
theorem sm_k224 : sm_okm sm_m224 = true := by decide +kernel
set_option maxRecDepth 100000 in
theorem sm_k225 : sm_okm sm_m225 = true := by decide +kernel
set_option maxRecDepth 100000 in
theorem sm_k226 : sm_okm sm_m226 = true := by decide +kernel
set_option maxRecDepth 100000 in
theorem sm_k227 : sm_okm sm_m227 = true := by decide +kernel
