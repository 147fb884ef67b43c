set_option maxRecDepth 100000 in
theorem sm_k0 : sm_okm sm_m0 = true := by decide +kernel
set_option maxRecDepth 100000 in
theorem sm_k1 : sm_okm sm_m1 = true := by decide +kernel
set_option maxRecDepth 100000 in
theorem sm_k2 : sm_okm sm_m2 = true := by decide +kernel
set_option maxRecDepth 100000 in
theorem sm_k3 : sm_okm sm_m3 = true := by decide +kernel
set_option maxRecDepth 100000 in
theorem sm_k4 : sm_okm sm_m4 = true := by decide +kernel
set_option maxRecDepth 100000 in
theorem sm_k5 : sm_okm sm_m5 = true := by decide +kernel
set_option maxRecDepth 100000 in
theorem sm_k6 : sm_okm sm_m6 = true := by decide +kernel
set_option maxRecDepth 100000 in
theorem sm_k7 : sm_okm sm_m7 = true := by decide +kernel
set_option maxRecDepth 100000 in
theorem sm_k8 : sm_okm sm_m8 = true := by decide +kernel
set_option maxRecDepth 100000 in
theorem sm_k9 : sm_okm sm_m9 = true := by decide +kernel
set_option maxRecDepth 100000 in
theorem sm_k10 : sm_okm sm_m10 = true := by decide +kernel
set_option maxRecDepth 100000 in
theorem sm_k11 : sm_okm sm_m11 = true := by decide +kernel
set_option maxRecDepth 100000 in
theorem sm_k12 : sm_okm sm_m12 = true := by decide +kernel
set_option maxRecDepth 100000 in
theorem sm_k13 : sm_okm sm_m13 = true := by decide +kernel
set_option maxRecDepth 100000 in
theorem sm_k14 : sm_okm sm_m14 = true := by decide +kernel
set_option maxRecDepth 100000 in
theorem sm_k15 : sm_okm sm_m15 = true := by decide +kernel
set_option maxRecDepth 100000 in
theorem sm_k16 : sm_okm sm_m16 = true := by decide +kernel
set_option maxRecDepth 100000 in
theorem sm_k17_0 : sm_okt sm_m17.2.1 sm_m17.2.2.2.2.1 sm_t17_0 = true := by decide +kernel
set_option maxRecDepth 100000 in
theorem sm_k17_1 : sm_okt sm_m17.2.1 sm_m17.2.2.2.2.1 sm_t17_1 = true := by decide +kernel
set_option maxRecDepth 100000 in
theorem sm_k17 : sm_okm sm_m17 = true := sm_oka sm_k17_0 (sm_k17_1)
set_option maxRecDepth 100000 in
theorem sm_k18 : sm_okm sm_m18 = true := by decide +kernel
set_option maxRecDepth 100000 in
theorem sm_k19 : sm_okm sm_m19 = true := by decide +kernel
set_option maxRecDepth 100000 in
theorem sm_k20 : sm_okm sm_m20 = true := by decide +kernel
set_option maxRecDepth 100000 in
theorem sm_k21 : sm_okm sm_m21 = true := by decide +kernel
set_option maxRecDepth 100000 in
theorem sm_k22 : sm_okm sm_m22 = true := by decide +kernel
set_option maxRecDepth 100000 in
theorem sm_k23 : sm_okm sm_m23 = true := by decide +kernel
set_option maxRecDepth 100000 in
theorem sm_k24 : sm_okm sm_m24 = true := by decide +kernel
set_option maxRecDepth 100000 in
theorem sm_k25 : sm_okm sm_m25 = true := by decide +kernel
set_option maxRecDepth 100000 in
theorem sm_k26 : sm_okm sm_m26 = true := by decide +kernel
set_option maxRecDepth 100000 in
theorem sm_k27_0 : sm_okt sm_m27.2.1 sm_m27.2.2.2.2.1 sm_t27_0 = true := by decide +kernel
set_option maxRecDepth 100000 in
theorem sm_k27_1 : sm_okt sm_m27.2.1 sm_m27.2.2.2.2.1 sm_t27_1 = true := by decide +kernel
set_option maxRecDepth 100000 in
theorem sm_k27_2 : sm_okt sm_m27.2.1 sm_m27.2.2.2.2.1 sm_t27_2 = true := by decide +kernel
set_option maxRecDepth 100000 in
theorem sm_k27 : sm_okm sm_m27 = true := sm_oka sm_k27_0 (sm_oka sm_k27_1 (sm_k27_2))
set_option maxRecDepth 100000 in
theorem sm_k28 : sm_okm sm_m28 = true := by decide +kernel
set_option maxRecDepth 100000 in
theorem sm_k29 : sm_okm sm_m29 = true := by decide +kernel
set_option maxRecDepth 100000 in
theorem sm_k30 : sm_okm sm_m30 = true := by decide +kernel
set_option maxRecDepth 100000 in
theorem sm_k31 : sm_okm sm_m31 = true := by decide +kernel
set_option maxRecDepth 100000 in
theorem sm_k32 : sm_okm sm_m32 = true := by decide +kernel
set_option maxRecDepth 100000 in
theorem sm_k33 : sm_okm sm_m33 = true := by decide +kernel
set_option maxRecDepth 100000 in
theorem sm_k34 : sm_okm sm_m34 = true := by decide +kernel
set_option maxRecDepth 100000 in
theorem sm_k35 : sm_okm sm_m35 = true := by decide +kernel
set_option maxRecDepth 100000 in
theorem sm_k36 : sm_okm sm_m36 = true := by decide +kernel
set_option maxRecDepth 100000 in
theorem sm_k37 : sm_okm sm_m37 = true := by decide +kernel
set_option maxRecDepth 100000 in
theorem sm_k38 : sm_okm sm_m38 = true := by decide +kernel
set_option maxRecDepth 100000 in
theorem sm_k39 : sm_okm sm_m39 = true := by decide +kernel
set_option maxRecDepth 100000 in
theorem sm_k40 : sm_okm sm_m40 = true := by decide +kernel
set_option maxRecDepth 100000 in
theorem sm_k41 : sm_okm sm_m41 = true := by decide +kernel
set_option maxRecDepth 100000 in
theorem sm_k42 : sm_okm sm_m42 = true := by decide +kernel
set_option maxRecDepth 100000 in
theorem sm_k43 : sm_okm sm_m43 = true := by decide +kernel
set_option maxRecDepth 100000 in
theorem sm_k44 : sm_okm sm_m44 = true := by decide +kernel
set_option maxRecDepth 100000 in
theorem sm_k45 : sm_okm sm_m45 = true := by decide +kernel
set_option maxRecDepth 100000 in
theorem sm_k46 : sm_okm sm_m46 = true := by decide +kernel
set_option maxRecDepth 100000 in
theorem sm_k47 : sm_okm sm_m47 = true := by decide +kernel
set_option maxRecDepth 100000 in
theorem sm_k48 : sm_okm sm_m48 = true := by decide +kernel
set_option maxRecDepth 100000 in
theorem sm_k49 : sm_okm sm_m49 = true := by decide +kernel
set_option maxRecDepth 100000 in
theorem sm_k50 : sm_okm sm_m50 = true := by decide +kernel
set_option maxRecDepth 100000 in
theorem sm_k51 : sm_okm sm_m51 = true := by decide +kernel
set_option maxRecDepth 100000 in
theorem sm_k52 : sm_okm sm_m52 = true := by decide +kernel
set_option maxRecDepth 100000 in
theorem sm_k53 : sm_okm sm_m53 = true := by decide +kernel
set_option maxRecDepth 100000 in
theorem sm_k54 : sm_okm sm_m54 = true := by decide +kernel
set_option maxRecDepth 100000 in
theorem sm_k55 : sm_okm sm_m55 = true := by decide +kernel
set_option maxRecDepth 100000 in
theorem sm_k56 : sm_okm sm_m56 = true := by decide +kernel
set_option maxRecDepth 100000 in
theorem sm_k57 : sm_okm sm_m57 = true := by decide +kernel
set_option maxRecDepth 100000 in
theorem sm_k58 : sm_okm sm_m58 = true := by decide +kernel
set_option maxRecDepth 100000 in
theorem sm_k59_0 : sm_okt sm_m59.2.1 sm_m59.2.2.2.2.1 sm_t59_0 = true := by decide +kernel
set_option maxRecDepth 100000 in
theorem sm_k59_1 : sm_okt sm_m59.2.1 sm_m59.2.2.2.2.1 sm_t59_1 = true := by decide +kernel
set_option maxRecDepth 100000 in
theorem sm_k59 : sm_okm sm_m59 = true := sm_oka sm_k59_0 (sm_k59_1)
