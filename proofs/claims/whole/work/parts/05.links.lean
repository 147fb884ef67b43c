/-! what the instructions refer to stands in the tables: by places (printed by wip/whole/gen3.py) -/
def sm_y (k : Nat) : MethodName := match sm_M[k]? with
  | some q => q.1
  | none => ⟨"", "", ""⟩
def sm_by (k : Nat) : ByteArray := match sm_M[k]? with
  | some q => q.2.1
  | none => ⟨#[]⟩
abbrev sm_w (w : Cond) : Prop := w ∈ lw_tbl ∧ goodWord w = true
theorem sm_int {w : Cond} (h : w ∈ tables_1) : w ∈ lw_tbl := List.mem_append_right _ h
theorem sm_ins {w : Cond} (h : w ∈ k2_sels lw_privs) : w ∈ lw_tbl := List.mem_append_left _ h
theorem sm_in1 {w : Cond} (h : w ∈ tables_1_1) : w ∈ lw_tbl := sm_int (List.mem_append_left _ h)
theorem sm_in2 {w : Cond} (h : w ∈ tables_1_2) : w ∈ lw_tbl := sm_int (List.mem_append_right _ (List.mem_append_left _ h))
theorem sm_in3 {w : Cond} (h : w ∈ tables_1_3) : w ∈ lw_tbl := sm_int (List.mem_append_right _ (List.mem_append_right _ (List.mem_append_left _ h)))
theorem sm_in4 {w : Cond} (h : w ∈ tables_1_4) : w ∈ lw_tbl := sm_int (List.mem_append_right _ (List.mem_append_right _ (List.mem_append_right _ (List.mem_append_left _ h))))
theorem sm_in5 {w : Cond} (h : w ∈ tables_1_5) : w ∈ lw_tbl := sm_int (List.mem_append_right _ (List.mem_append_right _ (List.mem_append_right _ (List.mem_append_right _ (List.mem_append_left _ h)))))
theorem sm_in6 {w : Cond} (h : w ∈ tables_1_6) : w ∈ lw_tbl := sm_int (List.mem_append_right _ (List.mem_append_right _ (List.mem_append_right _ (List.mem_append_right _ (List.mem_append_right _ (List.mem_append_left _ h))))))
theorem sm_in7 {w : Cond} (h : w ∈ tables_1_7) : w ∈ lw_tbl := sm_int (List.mem_append_right _ (List.mem_append_right _ (List.mem_append_right _ (List.mem_append_right _ (List.mem_append_right _ (List.mem_append_right _ (h)))))))
theorem sm_ip1 {q : MethodName × Nat} (h : q ∈ lw_privs_1) : Cond.selects q.1.cls q.1 q.1 ∈ lw_tbl := sm_ins (List.mem_map.mpr ⟨q, List.mem_append_left _ h, rfl⟩)
theorem sm_ip2 {q : MethodName × Nat} (h : q ∈ lw_privs_2) : Cond.selects q.1.cls q.1 q.1 ∈ lw_tbl := sm_ins (List.mem_map.mpr ⟨q, List.mem_append_right _ (List.mem_append_left _ h), rfl⟩)
theorem sm_ip3 {q : MethodName × Nat} (h : q ∈ lw_privs_3) : Cond.selects q.1.cls q.1 q.1 ∈ lw_tbl := sm_ins (List.mem_map.mpr ⟨q, List.mem_append_right _ (List.mem_append_right _ (List.mem_append_left _ h)), rfl⟩)
theorem sm_ip4 {q : MethodName × Nat} (h : q ∈ lw_privs_4) : Cond.selects q.1.cls q.1 q.1 ∈ lw_tbl := sm_ins (List.mem_map.mpr ⟨q, List.mem_append_right _ (List.mem_append_right _ (List.mem_append_right _ (List.mem_append_left _ h))), rfl⟩)
theorem sm_ip5 {q : MethodName × Nat} (h : q ∈ lw_privs_5) : Cond.selects q.1.cls q.1 q.1 ∈ lw_tbl := sm_ins (List.mem_map.mpr ⟨q, List.mem_append_right _ (List.mem_append_right _ (List.mem_append_right _ (List.mem_append_right _ (h)))), rfl⟩)
def sm_Pq (q : sm_Me) : Prop := sm_w (.code q.1 q.2.1 q.2.2.1 q.2.2.2.1) ∧ plainName q.1.cls = true ∧ sm_w (.initialized q.1.cls) ∧ (q.1.cls ≠ "java/lang/invoke/MethodHandle" ∧ q.1.cls ≠ "java/lang/invoke/VarHandle") ∧ sm_c q.2.2.2.2.1 = q.1.cls
theorem sm_q0 : sm_Pq sm_m0 := ⟨⟨sm_in1 (List.mem_of_getElem? (i := 197) rfl), rfl⟩, by decide +kernel, ⟨sm_in1 (List.mem_of_getElem? (i := 7) rfl), rfl⟩, ⟨by decide +kernel, by decide +kernel⟩, rfl⟩
theorem sm_q1 : sm_Pq sm_m1 := ⟨⟨sm_in2 (List.mem_of_getElem? (i := 216) rfl), rfl⟩, by decide +kernel, ⟨sm_in1 (List.mem_of_getElem? (i := 7) rfl), rfl⟩, ⟨by decide +kernel, by decide +kernel⟩, rfl⟩
theorem sm_q2 : sm_Pq sm_m2 := ⟨⟨sm_in2 (List.mem_of_getElem? (i := 220) rfl), rfl⟩, by decide +kernel, ⟨sm_in1 (List.mem_of_getElem? (i := 7) rfl), rfl⟩, ⟨by decide +kernel, by decide +kernel⟩, rfl⟩
theorem sm_q3 : sm_Pq sm_m3 := ⟨⟨sm_in4 (List.mem_of_getElem? (i := 230) rfl), rfl⟩, by decide +kernel, ⟨sm_in1 (List.mem_of_getElem? (i := 7) rfl), rfl⟩, ⟨by decide +kernel, by decide +kernel⟩, rfl⟩
theorem sm_q4 : sm_Pq sm_m4 := ⟨⟨sm_in4 (List.mem_of_getElem? (i := 238) rfl), rfl⟩, by decide +kernel, ⟨sm_in1 (List.mem_of_getElem? (i := 7) rfl), rfl⟩, ⟨by decide +kernel, by decide +kernel⟩, rfl⟩
theorem sm_q5 : sm_Pq sm_m5 := ⟨⟨sm_in1 (List.mem_of_getElem? (i := 86) rfl), rfl⟩, by decide +kernel, ⟨sm_in1 (List.mem_of_getElem? (i := 4) rfl), rfl⟩, ⟨by decide +kernel, by decide +kernel⟩, rfl⟩
theorem sm_q6 : sm_Pq sm_m6 := ⟨⟨sm_in2 (List.mem_of_getElem? (i := 159) rfl), rfl⟩, by decide +kernel, ⟨sm_in1 (List.mem_of_getElem? (i := 4) rfl), rfl⟩, ⟨by decide +kernel, by decide +kernel⟩, rfl⟩
theorem sm_q7 : sm_Pq sm_m7 := ⟨⟨sm_in2 (List.mem_of_getElem? (i := 205) rfl), rfl⟩, by decide +kernel, ⟨sm_in1 (List.mem_of_getElem? (i := 4) rfl), rfl⟩, ⟨by decide +kernel, by decide +kernel⟩, rfl⟩
theorem sm_q8 : sm_Pq sm_m8 := ⟨⟨sm_in2 (List.mem_of_getElem? (i := 147) rfl), rfl⟩, by decide +kernel, ⟨sm_in1 (List.mem_of_getElem? (i := 4) rfl), rfl⟩, ⟨by decide +kernel, by decide +kernel⟩, rfl⟩
theorem sm_q9 : sm_Pq sm_m9 := ⟨⟨sm_in2 (List.mem_of_getElem? (i := 167) rfl), rfl⟩, by decide +kernel, ⟨sm_in1 (List.mem_of_getElem? (i := 4) rfl), rfl⟩, ⟨by decide +kernel, by decide +kernel⟩, rfl⟩
theorem sm_q10 : sm_Pq sm_m10 := ⟨⟨sm_in3 (List.mem_of_getElem? (i := 161) rfl), rfl⟩, by decide +kernel, ⟨sm_in1 (List.mem_of_getElem? (i := 4) rfl), rfl⟩, ⟨by decide +kernel, by decide +kernel⟩, rfl⟩
theorem sm_q11 : sm_Pq sm_m11 := ⟨⟨sm_in3 (List.mem_of_getElem? (i := 157) rfl), rfl⟩, by decide +kernel, ⟨sm_in1 (List.mem_of_getElem? (i := 4) rfl), rfl⟩, ⟨by decide +kernel, by decide +kernel⟩, rfl⟩
theorem sm_q12 : sm_Pq sm_m12 := ⟨⟨sm_in4 (List.mem_of_getElem? (i := 164) rfl), rfl⟩, by decide +kernel, ⟨sm_in1 (List.mem_of_getElem? (i := 4) rfl), rfl⟩, ⟨by decide +kernel, by decide +kernel⟩, rfl⟩
theorem sm_q13 : sm_Pq sm_m13 := ⟨⟨sm_in3 (List.mem_of_getElem? (i := 149) rfl), rfl⟩, by decide +kernel, ⟨sm_in1 (List.mem_of_getElem? (i := 4) rfl), rfl⟩, ⟨by decide +kernel, by decide +kernel⟩, rfl⟩
theorem sm_q14 : sm_Pq sm_m14 := ⟨⟨sm_in3 (List.mem_of_getElem? (i := 211) rfl), rfl⟩, by decide +kernel, ⟨sm_in1 (List.mem_of_getElem? (i := 4) rfl), rfl⟩, ⟨by decide +kernel, by decide +kernel⟩, rfl⟩
theorem sm_q15 : sm_Pq sm_m15 := ⟨⟨sm_in3 (List.mem_of_getElem? (i := 220) rfl), rfl⟩, by decide +kernel, ⟨sm_in1 (List.mem_of_getElem? (i := 4) rfl), rfl⟩, ⟨by decide +kernel, by decide +kernel⟩, rfl⟩
theorem sm_q16 : sm_Pq sm_m16 := ⟨⟨sm_in3 (List.mem_of_getElem? (i := 216) rfl), rfl⟩, by decide +kernel, ⟨sm_in1 (List.mem_of_getElem? (i := 4) rfl), rfl⟩, ⟨by decide +kernel, by decide +kernel⟩, rfl⟩
theorem sm_q17 : sm_Pq sm_m17 := ⟨⟨sm_in3 (List.mem_of_getElem? (i := 206) rfl), rfl⟩, by decide +kernel, ⟨sm_in1 (List.mem_of_getElem? (i := 4) rfl), rfl⟩, ⟨by decide +kernel, by decide +kernel⟩, rfl⟩
theorem sm_q18 : sm_Pq sm_m18 := ⟨⟨sm_in4 (List.mem_of_getElem? (i := 9) rfl), rfl⟩, by decide +kernel, ⟨sm_in1 (List.mem_of_getElem? (i := 4) rfl), rfl⟩, ⟨by decide +kernel, by decide +kernel⟩, rfl⟩
theorem sm_q19 : sm_Pq sm_m19 := ⟨⟨sm_in4 (List.mem_of_getElem? (i := 17) rfl), rfl⟩, by decide +kernel, ⟨sm_in1 (List.mem_of_getElem? (i := 4) rfl), rfl⟩, ⟨by decide +kernel, by decide +kernel⟩, rfl⟩
theorem sm_q20 : sm_Pq sm_m20 := ⟨⟨sm_in4 (List.mem_of_getElem? (i := 91) rfl), rfl⟩, by decide +kernel, ⟨sm_in1 (List.mem_of_getElem? (i := 4) rfl), rfl⟩, ⟨by decide +kernel, by decide +kernel⟩, rfl⟩
theorem sm_q21 : sm_Pq sm_m21 := ⟨⟨sm_in1 (List.mem_of_getElem? (i := 172) rfl), rfl⟩, by decide +kernel, ⟨sm_in1 (List.mem_of_getElem? (i := 6) rfl), rfl⟩, ⟨by decide +kernel, by decide +kernel⟩, rfl⟩
theorem sm_q22 : sm_Pq sm_m22 := ⟨⟨sm_in4 (List.mem_of_getElem? (i := 211) rfl), rfl⟩, by decide +kernel, ⟨sm_in1 (List.mem_of_getElem? (i := 6) rfl), rfl⟩, ⟨by decide +kernel, by decide +kernel⟩, rfl⟩
theorem sm_q23 : sm_Pq sm_m23 := ⟨⟨sm_in4 (List.mem_of_getElem? (i := 221) rfl), rfl⟩, by decide +kernel, ⟨sm_in1 (List.mem_of_getElem? (i := 6) rfl), rfl⟩, ⟨by decide +kernel, by decide +kernel⟩, rfl⟩
theorem sm_q24 : sm_Pq sm_m24 := ⟨⟨sm_in1 (List.mem_of_getElem? (i := 35) rfl), rfl⟩, by decide +kernel, ⟨sm_in1 (List.mem_of_getElem? (i := 2) rfl), rfl⟩, ⟨by decide +kernel, by decide +kernel⟩, rfl⟩
theorem sm_q25 : sm_Pq sm_m25 := ⟨⟨sm_in3 (List.mem_of_getElem? (i := 153) rfl), rfl⟩, by decide +kernel, ⟨sm_in1 (List.mem_of_getElem? (i := 2) rfl), rfl⟩, ⟨by decide +kernel, by decide +kernel⟩, rfl⟩
theorem sm_q26 : sm_Pq sm_m26 := ⟨⟨sm_in3 (List.mem_of_getElem? (i := 137) rfl), rfl⟩, by decide +kernel, ⟨sm_in1 (List.mem_of_getElem? (i := 2) rfl), rfl⟩, ⟨by decide +kernel, by decide +kernel⟩, rfl⟩
theorem sm_q27 : sm_Pq sm_m27 := ⟨⟨sm_in3 (List.mem_of_getElem? (i := 165) rfl), rfl⟩, by decide +kernel, ⟨sm_in1 (List.mem_of_getElem? (i := 2) rfl), rfl⟩, ⟨by decide +kernel, by decide +kernel⟩, rfl⟩
theorem sm_q28 : sm_Pq sm_m28 := ⟨⟨sm_in3 (List.mem_of_getElem? (i := 168) rfl), rfl⟩, by decide +kernel, ⟨sm_in1 (List.mem_of_getElem? (i := 2) rfl), rfl⟩, ⟨by decide +kernel, by decide +kernel⟩, rfl⟩
theorem sm_q29 : sm_Pq sm_m29 := ⟨⟨sm_in3 (List.mem_of_getElem? (i := 171) rfl), rfl⟩, by decide +kernel, ⟨sm_in1 (List.mem_of_getElem? (i := 2) rfl), rfl⟩, ⟨by decide +kernel, by decide +kernel⟩, rfl⟩
theorem sm_q30 : sm_Pq sm_m30 := ⟨⟨sm_in1 (List.mem_of_getElem? (i := 55) rfl), rfl⟩, by decide +kernel, ⟨sm_in1 (List.mem_of_getElem? (i := 3) rfl), rfl⟩, ⟨by decide +kernel, by decide +kernel⟩, rfl⟩
theorem sm_q31 : sm_Pq sm_m31 := ⟨⟨sm_in2 (List.mem_of_getElem? (i := 239) rfl), rfl⟩, by decide +kernel, ⟨sm_in1 (List.mem_of_getElem? (i := 3) rfl), rfl⟩, ⟨by decide +kernel, by decide +kernel⟩, rfl⟩
theorem sm_q32 : sm_Pq sm_m32 := ⟨⟨sm_in3 (List.mem_of_getElem? (i := 7) rfl), rfl⟩, by decide +kernel, ⟨sm_in1 (List.mem_of_getElem? (i := 3) rfl), rfl⟩, ⟨by decide +kernel, by decide +kernel⟩, rfl⟩
theorem sm_q33 : sm_Pq sm_m33 := ⟨⟨sm_in3 (List.mem_of_getElem? (i := 11) rfl), rfl⟩, by decide +kernel, ⟨sm_in1 (List.mem_of_getElem? (i := 3) rfl), rfl⟩, ⟨by decide +kernel, by decide +kernel⟩, rfl⟩
theorem sm_q34 : sm_Pq sm_m34 := ⟨⟨sm_in3 (List.mem_of_getElem? (i := 15) rfl), rfl⟩, by decide +kernel, ⟨sm_in1 (List.mem_of_getElem? (i := 3) rfl), rfl⟩, ⟨by decide +kernel, by decide +kernel⟩, rfl⟩
theorem sm_q35 : sm_Pq sm_m35 := ⟨⟨sm_in3 (List.mem_of_getElem? (i := 126) rfl), rfl⟩, by decide +kernel, ⟨sm_in1 (List.mem_of_getElem? (i := 3) rfl), rfl⟩, ⟨by decide +kernel, by decide +kernel⟩, rfl⟩
theorem sm_q36 : sm_Pq sm_m36 := ⟨⟨sm_in3 (List.mem_of_getElem? (i := 19) rfl), rfl⟩, by decide +kernel, ⟨sm_in1 (List.mem_of_getElem? (i := 3) rfl), rfl⟩, ⟨by decide +kernel, by decide +kernel⟩, rfl⟩
theorem sm_q37 : sm_Pq sm_m37 := ⟨⟨sm_in3 (List.mem_of_getElem? (i := 112) rfl), rfl⟩, by decide +kernel, ⟨sm_in1 (List.mem_of_getElem? (i := 3) rfl), rfl⟩, ⟨by decide +kernel, by decide +kernel⟩, rfl⟩
theorem sm_q38 : sm_Pq sm_m38 := ⟨⟨sm_in3 (List.mem_of_getElem? (i := 122) rfl), rfl⟩, by decide +kernel, ⟨sm_in1 (List.mem_of_getElem? (i := 3) rfl), rfl⟩, ⟨by decide +kernel, by decide +kernel⟩, rfl⟩
theorem sm_q39 : sm_Pq sm_m39 := ⟨⟨sm_in3 (List.mem_of_getElem? (i := 24) rfl), rfl⟩, by decide +kernel, ⟨sm_in1 (List.mem_of_getElem? (i := 3) rfl), rfl⟩, ⟨by decide +kernel, by decide +kernel⟩, rfl⟩
theorem sm_q40 : sm_Pq sm_m40 := ⟨⟨sm_in3 (List.mem_of_getElem? (i := 117) rfl), rfl⟩, by decide +kernel, ⟨sm_in1 (List.mem_of_getElem? (i := 3) rfl), rfl⟩, ⟨by decide +kernel, by decide +kernel⟩, rfl⟩
theorem sm_q41 : sm_Pq sm_m41 := ⟨⟨sm_in2 (List.mem_of_getElem? (i := 38) rfl), rfl⟩, by decide +kernel, ⟨sm_in1 (List.mem_of_getElem? (i := 10) rfl), rfl⟩, ⟨by decide +kernel, by decide +kernel⟩, rfl⟩
theorem sm_q42 : sm_Pq sm_m42 := ⟨⟨sm_in4 (List.mem_of_getElem? (i := 26) rfl), rfl⟩, by decide +kernel, ⟨sm_in1 (List.mem_of_getElem? (i := 10) rfl), rfl⟩, ⟨by decide +kernel, by decide +kernel⟩, rfl⟩
theorem sm_q43 : sm_Pq sm_m43 := ⟨⟨sm_in4 (List.mem_of_getElem? (i := 36) rfl), rfl⟩, by decide +kernel, ⟨sm_in1 (List.mem_of_getElem? (i := 10) rfl), rfl⟩, ⟨by decide +kernel, by decide +kernel⟩, rfl⟩
theorem sm_q44 : sm_Pq sm_m44 := ⟨⟨sm_in4 (List.mem_of_getElem? (i := 41) rfl), rfl⟩, by decide +kernel, ⟨sm_in1 (List.mem_of_getElem? (i := 10) rfl), rfl⟩, ⟨by decide +kernel, by decide +kernel⟩, rfl⟩
theorem sm_q45 : sm_Pq sm_m45 := ⟨⟨sm_in4 (List.mem_of_getElem? (i := 50) rfl), rfl⟩, by decide +kernel, ⟨sm_in1 (List.mem_of_getElem? (i := 10) rfl), rfl⟩, ⟨by decide +kernel, by decide +kernel⟩, rfl⟩
theorem sm_q46 : sm_Pq sm_m46 := ⟨⟨sm_in4 (List.mem_of_getElem? (i := 54) rfl), rfl⟩, by decide +kernel, ⟨sm_in1 (List.mem_of_getElem? (i := 10) rfl), rfl⟩, ⟨by decide +kernel, by decide +kernel⟩, rfl⟩
theorem sm_q47 : sm_Pq sm_m47 := ⟨⟨sm_in4 (List.mem_of_getElem? (i := 59) rfl), rfl⟩, by decide +kernel, ⟨sm_in1 (List.mem_of_getElem? (i := 10) rfl), rfl⟩, ⟨by decide +kernel, by decide +kernel⟩, rfl⟩
theorem sm_q48 : sm_Pq sm_m48 := ⟨⟨sm_in2 (List.mem_of_getElem? (i := 77) rfl), rfl⟩, by decide +kernel, ⟨sm_in1 (List.mem_of_getElem? (i := 12) rfl), rfl⟩, ⟨by decide +kernel, by decide +kernel⟩, rfl⟩
theorem sm_q49 : sm_Pq sm_m49 := ⟨⟨sm_in2 (List.mem_of_getElem? (i := 181) rfl), rfl⟩, by decide +kernel, ⟨sm_in1 (List.mem_of_getElem? (i := 12) rfl), rfl⟩, ⟨by decide +kernel, by decide +kernel⟩, rfl⟩
theorem sm_q50 : sm_Pq sm_m50 := ⟨⟨sm_in5 (List.mem_of_getElem? (i := 108) rfl), rfl⟩, by decide +kernel, ⟨sm_in1 (List.mem_of_getElem? (i := 12) rfl), rfl⟩, ⟨by decide +kernel, by decide +kernel⟩, rfl⟩
theorem sm_q51 : sm_Pq sm_m51 := ⟨⟨sm_in2 (List.mem_of_getElem? (i := 189) rfl), rfl⟩, by decide +kernel, ⟨sm_in1 (List.mem_of_getElem? (i := 12) rfl), rfl⟩, ⟨by decide +kernel, by decide +kernel⟩, rfl⟩
theorem sm_q52 : sm_Pq sm_m52 := ⟨⟨sm_in2 (List.mem_of_getElem? (i := 185) rfl), rfl⟩, by decide +kernel, ⟨sm_in1 (List.mem_of_getElem? (i := 12) rfl), rfl⟩, ⟨by decide +kernel, by decide +kernel⟩, rfl⟩
theorem sm_q53 : sm_Pq sm_m53 := ⟨⟨sm_in5 (List.mem_of_getElem? (i := 60) rfl), rfl⟩, by decide +kernel, ⟨sm_in1 (List.mem_of_getElem? (i := 12) rfl), rfl⟩, ⟨by decide +kernel, by decide +kernel⟩, rfl⟩
theorem sm_q54 : sm_Pq sm_m54 := ⟨⟨sm_in5 (List.mem_of_getElem? (i := 68) rfl), rfl⟩, by decide +kernel, ⟨sm_in1 (List.mem_of_getElem? (i := 12) rfl), rfl⟩, ⟨by decide +kernel, by decide +kernel⟩, rfl⟩
theorem sm_q55 : sm_Pq sm_m55 := ⟨⟨sm_in5 (List.mem_of_getElem? (i := 86) rfl), rfl⟩, by decide +kernel, ⟨sm_in1 (List.mem_of_getElem? (i := 12) rfl), rfl⟩, ⟨by decide +kernel, by decide +kernel⟩, rfl⟩
theorem sm_q56 : sm_Pq sm_m56 := ⟨⟨sm_in5 (List.mem_of_getElem? (i := 90) rfl), rfl⟩, by decide +kernel, ⟨sm_in1 (List.mem_of_getElem? (i := 12) rfl), rfl⟩, ⟨by decide +kernel, by decide +kernel⟩, rfl⟩
theorem sm_q57 : sm_Pq sm_m57 := ⟨⟨sm_in1 (List.mem_of_getElem? (i := 228) rfl), rfl⟩, by decide +kernel, ⟨sm_in1 (List.mem_of_getElem? (i := 8) rfl), rfl⟩, ⟨by decide +kernel, by decide +kernel⟩, rfl⟩
theorem sm_q58 : sm_Pq sm_m58 := ⟨⟨sm_in4 (List.mem_of_getElem? (i := 68) rfl), rfl⟩, by decide +kernel, ⟨sm_in1 (List.mem_of_getElem? (i := 8) rfl), rfl⟩, ⟨by decide +kernel, by decide +kernel⟩, rfl⟩
theorem sm_q59 : sm_Pq sm_m59 := ⟨⟨sm_in4 (List.mem_of_getElem? (i := 73) rfl), rfl⟩, by decide +kernel, ⟨sm_in1 (List.mem_of_getElem? (i := 8) rfl), rfl⟩, ⟨by decide +kernel, by decide +kernel⟩, rfl⟩
theorem sm_q60 : sm_Pq sm_m60 := ⟨⟨sm_in4 (List.mem_of_getElem? (i := 77) rfl), rfl⟩, by decide +kernel, ⟨sm_in1 (List.mem_of_getElem? (i := 8) rfl), rfl⟩, ⟨by decide +kernel, by decide +kernel⟩, rfl⟩
theorem sm_q61 : sm_Pq sm_m61 := ⟨⟨sm_in1 (List.mem_of_getElem? (i := 140) rfl), rfl⟩, by decide +kernel, ⟨sm_in1 (List.mem_of_getElem? (i := 5) rfl), rfl⟩, ⟨by decide +kernel, by decide +kernel⟩, rfl⟩
theorem sm_q62 : sm_Pq sm_m62 := ⟨⟨sm_in3 (List.mem_of_getElem? (i := 197) rfl), rfl⟩, by decide +kernel, ⟨sm_in1 (List.mem_of_getElem? (i := 5) rfl), rfl⟩, ⟨by decide +kernel, by decide +kernel⟩, rfl⟩
theorem sm_q63 : sm_Pq sm_m63 := ⟨⟨sm_in3 (List.mem_of_getElem? (i := 224) rfl), rfl⟩, by decide +kernel, ⟨sm_in1 (List.mem_of_getElem? (i := 5) rfl), rfl⟩, ⟨by decide +kernel, by decide +kernel⟩, rfl⟩
theorem sm_q64 : sm_Pq sm_m64 := ⟨⟨sm_in3 (List.mem_of_getElem? (i := 201) rfl), rfl⟩, by decide +kernel, ⟨sm_in1 (List.mem_of_getElem? (i := 5) rfl), rfl⟩, ⟨by decide +kernel, by decide +kernel⟩, rfl⟩
theorem sm_q65 : sm_Pq sm_m65 := ⟨⟨sm_in2 (List.mem_of_getElem? (i := 54) rfl), rfl⟩, by decide +kernel, ⟨sm_in1 (List.mem_of_getElem? (i := 11) rfl), rfl⟩, ⟨by decide +kernel, by decide +kernel⟩, rfl⟩
theorem sm_q66 : sm_Pq sm_m66 := ⟨⟨sm_in5 (List.mem_of_getElem? (i := 6) rfl), rfl⟩, by decide +kernel, ⟨sm_in1 (List.mem_of_getElem? (i := 11) rfl), rfl⟩, ⟨by decide +kernel, by decide +kernel⟩, rfl⟩
theorem sm_q67 : sm_Pq sm_m67 := ⟨⟨sm_in5 (List.mem_of_getElem? (i := 18) rfl), rfl⟩, by decide +kernel, ⟨sm_in1 (List.mem_of_getElem? (i := 11) rfl), rfl⟩, ⟨by decide +kernel, by decide +kernel⟩, rfl⟩
theorem sm_q68 : sm_Pq sm_m68 := ⟨⟨sm_in5 (List.mem_of_getElem? (i := 27) rfl), rfl⟩, by decide +kernel, ⟨sm_in1 (List.mem_of_getElem? (i := 11) rfl), rfl⟩, ⟨by decide +kernel, by decide +kernel⟩, rfl⟩
theorem sm_q69 : sm_Pq sm_m69 := ⟨⟨sm_in5 (List.mem_of_getElem? (i := 112) rfl), rfl⟩, by decide +kernel, ⟨sm_in1 (List.mem_of_getElem? (i := 11) rfl), rfl⟩, ⟨by decide +kernel, by decide +kernel⟩, rfl⟩
theorem sm_q70 : sm_Pq sm_m70 := ⟨⟨sm_in5 (List.mem_of_getElem? (i := 50) rfl), rfl⟩, by decide +kernel, ⟨sm_in1 (List.mem_of_getElem? (i := 11) rfl), rfl⟩, ⟨by decide +kernel, by decide +kernel⟩, rfl⟩
theorem sm_q71 : sm_Pq sm_m71 := ⟨⟨sm_in5 (List.mem_of_getElem? (i := 14) rfl), rfl⟩, by decide +kernel, ⟨sm_in1 (List.mem_of_getElem? (i := 11) rfl), rfl⟩, ⟨by decide +kernel, by decide +kernel⟩, rfl⟩
theorem sm_q72 : sm_Pq sm_m72 := ⟨⟨sm_in5 (List.mem_of_getElem? (i := 23) rfl), rfl⟩, by decide +kernel, ⟨sm_in1 (List.mem_of_getElem? (i := 11) rfl), rfl⟩, ⟨by decide +kernel, by decide +kernel⟩, rfl⟩
theorem sm_q73 : sm_Pq sm_m73 := ⟨⟨sm_in5 (List.mem_of_getElem? (i := 42) rfl), rfl⟩, by decide +kernel, ⟨sm_in1 (List.mem_of_getElem? (i := 11) rfl), rfl⟩, ⟨by decide +kernel, by decide +kernel⟩, rfl⟩
theorem sm_q74 : sm_Pq sm_m74 := ⟨⟨sm_in5 (List.mem_of_getElem? (i := 34) rfl), rfl⟩, by decide +kernel, ⟨sm_in1 (List.mem_of_getElem? (i := 11) rfl), rfl⟩, ⟨by decide +kernel, by decide +kernel⟩, rfl⟩
theorem sm_q75 : sm_Pq sm_m75 := ⟨⟨sm_in5 (List.mem_of_getElem? (i := 31) rfl), rfl⟩, by decide +kernel, ⟨sm_in1 (List.mem_of_getElem? (i := 11) rfl), rfl⟩, ⟨by decide +kernel, by decide +kernel⟩, rfl⟩
theorem sm_q76 : sm_Pq sm_m76 := ⟨⟨sm_in2 (List.mem_of_getElem? (i := 15) rfl), rfl⟩, by decide +kernel, ⟨sm_in1 (List.mem_of_getElem? (i := 9) rfl), rfl⟩, ⟨by decide +kernel, by decide +kernel⟩, rfl⟩
theorem sm_q77 : sm_Pq sm_m77 := ⟨⟨sm_in4 (List.mem_of_getElem? (i := 101) rfl), rfl⟩, by decide +kernel, ⟨sm_in1 (List.mem_of_getElem? (i := 9) rfl), rfl⟩, ⟨by decide +kernel, by decide +kernel⟩, rfl⟩
theorem sm_q78 : sm_Pq sm_m78 := ⟨⟨sm_in4 (List.mem_of_getElem? (i := 105) rfl), rfl⟩, by decide +kernel, ⟨sm_in1 (List.mem_of_getElem? (i := 9) rfl), rfl⟩, ⟨by decide +kernel, by decide +kernel⟩, rfl⟩
theorem sm_q79 : sm_Pq sm_m79 := ⟨⟨sm_in4 (List.mem_of_getElem? (i := 117) rfl), rfl⟩, by decide +kernel, ⟨sm_in1 (List.mem_of_getElem? (i := 9) rfl), rfl⟩, ⟨by decide +kernel, by decide +kernel⟩, rfl⟩
theorem sm_q80 : sm_Pq sm_m80 := ⟨⟨sm_in4 (List.mem_of_getElem? (i := 122) rfl), rfl⟩, by decide +kernel, ⟨sm_in1 (List.mem_of_getElem? (i := 9) rfl), rfl⟩, ⟨by decide +kernel, by decide +kernel⟩, rfl⟩
theorem sm_q81 : sm_Pq sm_m81 := ⟨⟨sm_in4 (List.mem_of_getElem? (i := 110) rfl), rfl⟩, by decide +kernel, ⟨sm_in1 (List.mem_of_getElem? (i := 9) rfl), rfl⟩, ⟨by decide +kernel, by decide +kernel⟩, rfl⟩
theorem sm_q82 : sm_Pq sm_m82 := ⟨⟨sm_in4 (List.mem_of_getElem? (i := 126) rfl), rfl⟩, by decide +kernel, ⟨sm_in1 (List.mem_of_getElem? (i := 9) rfl), rfl⟩, ⟨by decide +kernel, by decide +kernel⟩, rfl⟩
theorem sm_q83 : sm_Pq sm_m83 := ⟨⟨sm_in1 (List.mem_of_getElem? (i := 27) rfl), rfl⟩, by decide +kernel, ⟨sm_in1 (List.mem_of_getElem? (i := 1) rfl), rfl⟩, ⟨by decide +kernel, by decide +kernel⟩, rfl⟩
theorem sm_q84 : sm_Pq sm_m84 := ⟨⟨sm_in2 (List.mem_of_getElem? (i := 140) rfl), rfl⟩, by decide +kernel, ⟨sm_in1 (List.mem_of_getElem? (i := 1) rfl), rfl⟩, ⟨by decide +kernel, by decide +kernel⟩, rfl⟩
theorem sm_q85 : sm_Pq sm_m85 := ⟨⟨sm_in2 (List.mem_of_getElem? (i := 151) rfl), rfl⟩, by decide +kernel, ⟨sm_in1 (List.mem_of_getElem? (i := 1) rfl), rfl⟩, ⟨by decide +kernel, by decide +kernel⟩, rfl⟩
theorem sm_q86 : sm_Pq sm_m86 := ⟨⟨sm_in2 (List.mem_of_getElem? (i := 174) rfl), rfl⟩, by decide +kernel, ⟨sm_in1 (List.mem_of_getElem? (i := 1) rfl), rfl⟩, ⟨by decide +kernel, by decide +kernel⟩, rfl⟩
theorem sm_q87 : sm_Pq sm_m87 := ⟨⟨sm_in2 (List.mem_of_getElem? (i := 197) rfl), rfl⟩, by decide +kernel, ⟨sm_in1 (List.mem_of_getElem? (i := 1) rfl), rfl⟩, ⟨by decide +kernel, by decide +kernel⟩, rfl⟩
theorem sm_q88 : sm_Pq sm_m88 := ⟨⟨sm_in2 (List.mem_of_getElem? (i := 231) rfl), rfl⟩, by decide +kernel, ⟨sm_in1 (List.mem_of_getElem? (i := 1) rfl), rfl⟩, ⟨by decide +kernel, by decide +kernel⟩, rfl⟩
theorem sm_q89 : sm_Pq sm_m89 := ⟨⟨sm_in2 (List.mem_of_getElem? (i := 235) rfl), rfl⟩, by decide +kernel, ⟨sm_in1 (List.mem_of_getElem? (i := 1) rfl), rfl⟩, ⟨by decide +kernel, by decide +kernel⟩, rfl⟩
theorem sm_q90 : sm_Pq sm_m90 := ⟨⟨sm_in3 (List.mem_of_getElem? (i := 3) rfl), rfl⟩, by decide +kernel, ⟨sm_in1 (List.mem_of_getElem? (i := 1) rfl), rfl⟩, ⟨by decide +kernel, by decide +kernel⟩, rfl⟩
theorem sm_q91 : sm_Pq sm_m91 := ⟨⟨sm_in3 (List.mem_of_getElem? (i := 145) rfl), rfl⟩, by decide +kernel, ⟨sm_in1 (List.mem_of_getElem? (i := 1) rfl), rfl⟩, ⟨by decide +kernel, by decide +kernel⟩, rfl⟩
theorem sm_q92 : sm_Pq sm_m92 := ⟨⟨sm_in3 (List.mem_of_getElem? (i := 176) rfl), rfl⟩, by decide +kernel, ⟨sm_in1 (List.mem_of_getElem? (i := 1) rfl), rfl⟩, ⟨by decide +kernel, by decide +kernel⟩, rfl⟩
theorem sm_q93 : sm_Pq sm_m93 := ⟨⟨sm_in3 (List.mem_of_getElem? (i := 229) rfl), rfl⟩, by decide +kernel, ⟨sm_in1 (List.mem_of_getElem? (i := 1) rfl), rfl⟩, ⟨by decide +kernel, by decide +kernel⟩, rfl⟩
theorem sm_q94 : sm_Pq sm_m94 := ⟨⟨sm_in4 (List.mem_of_getElem? (i := 1) rfl), rfl⟩, by decide +kernel, ⟨sm_in1 (List.mem_of_getElem? (i := 1) rfl), rfl⟩, ⟨by decide +kernel, by decide +kernel⟩, rfl⟩
theorem sm_q95 : sm_Pq sm_m95 := ⟨⟨sm_in4 (List.mem_of_getElem? (i := 5) rfl), rfl⟩, by decide +kernel, ⟨sm_in1 (List.mem_of_getElem? (i := 1) rfl), rfl⟩, ⟨by decide +kernel, by decide +kernel⟩, rfl⟩
theorem sm_q96 : sm_Pq sm_m96 := ⟨⟨sm_in4 (List.mem_of_getElem? (i := 13) rfl), rfl⟩, by decide +kernel, ⟨sm_in1 (List.mem_of_getElem? (i := 1) rfl), rfl⟩, ⟨by decide +kernel, by decide +kernel⟩, rfl⟩
theorem sm_q97 : sm_Pq sm_m97 := ⟨⟨sm_in4 (List.mem_of_getElem? (i := 22) rfl), rfl⟩, by decide +kernel, ⟨sm_in1 (List.mem_of_getElem? (i := 1) rfl), rfl⟩, ⟨by decide +kernel, by decide +kernel⟩, rfl⟩
theorem sm_q98 : sm_Pq sm_m98 := ⟨⟨sm_in4 (List.mem_of_getElem? (i := 46) rfl), rfl⟩, by decide +kernel, ⟨sm_in1 (List.mem_of_getElem? (i := 1) rfl), rfl⟩, ⟨by decide +kernel, by decide +kernel⟩, rfl⟩
theorem sm_q99 : sm_Pq sm_m99 := ⟨⟨sm_in4 (List.mem_of_getElem? (i := 64) rfl), rfl⟩, by decide +kernel, ⟨sm_in1 (List.mem_of_getElem? (i := 1) rfl), rfl⟩, ⟨by decide +kernel, by decide +kernel⟩, rfl⟩
theorem sm_q100 : sm_Pq sm_m100 := ⟨⟨sm_in4 (List.mem_of_getElem? (i := 87) rfl), rfl⟩, by decide +kernel, ⟨sm_in1 (List.mem_of_getElem? (i := 1) rfl), rfl⟩, ⟨by decide +kernel, by decide +kernel⟩, rfl⟩
theorem sm_q101 : sm_Pq sm_m101 := ⟨⟨sm_in4 (List.mem_of_getElem? (i := 97) rfl), rfl⟩, by decide +kernel, ⟨sm_in1 (List.mem_of_getElem? (i := 1) rfl), rfl⟩, ⟨by decide +kernel, by decide +kernel⟩, rfl⟩
theorem sm_q102 : sm_Pq sm_m102 := ⟨⟨sm_in4 (List.mem_of_getElem? (i := 131) rfl), rfl⟩, by decide +kernel, ⟨sm_in1 (List.mem_of_getElem? (i := 1) rfl), rfl⟩, ⟨by decide +kernel, by decide +kernel⟩, rfl⟩
theorem sm_q103 : sm_Pq sm_m103 := ⟨⟨sm_in4 (List.mem_of_getElem? (i := 136) rfl), rfl⟩, by decide +kernel, ⟨sm_in1 (List.mem_of_getElem? (i := 1) rfl), rfl⟩, ⟨by decide +kernel, by decide +kernel⟩, rfl⟩
theorem sm_q104 : sm_Pq sm_m104 := ⟨⟨sm_in4 (List.mem_of_getElem? (i := 151) rfl), rfl⟩, by decide +kernel, ⟨sm_in1 (List.mem_of_getElem? (i := 1) rfl), rfl⟩, ⟨by decide +kernel, by decide +kernel⟩, rfl⟩
theorem sm_q105 : sm_Pq sm_m105 := ⟨⟨sm_in4 (List.mem_of_getElem? (i := 159) rfl), rfl⟩, by decide +kernel, ⟨sm_in1 (List.mem_of_getElem? (i := 1) rfl), rfl⟩, ⟨by decide +kernel, by decide +kernel⟩, rfl⟩
theorem sm_q106 : sm_Pq sm_m106 := ⟨⟨sm_in4 (List.mem_of_getElem? (i := 172) rfl), rfl⟩, by decide +kernel, ⟨sm_in1 (List.mem_of_getElem? (i := 1) rfl), rfl⟩, ⟨by decide +kernel, by decide +kernel⟩, rfl⟩
theorem sm_q107 : sm_Pq sm_m107 := ⟨⟨sm_in4 (List.mem_of_getElem? (i := 182) rfl), rfl⟩, by decide +kernel, ⟨sm_in1 (List.mem_of_getElem? (i := 1) rfl), rfl⟩, ⟨by decide +kernel, by decide +kernel⟩, rfl⟩
theorem sm_q108 : sm_Pq sm_m108 := ⟨⟨sm_in4 (List.mem_of_getElem? (i := 191) rfl), rfl⟩, by decide +kernel, ⟨sm_in1 (List.mem_of_getElem? (i := 1) rfl), rfl⟩, ⟨by decide +kernel, by decide +kernel⟩, rfl⟩
theorem sm_q109 : sm_Pq sm_m109 := ⟨⟨sm_in4 (List.mem_of_getElem? (i := 195) rfl), rfl⟩, by decide +kernel, ⟨sm_in1 (List.mem_of_getElem? (i := 1) rfl), rfl⟩, ⟨by decide +kernel, by decide +kernel⟩, rfl⟩
theorem sm_q110 : sm_Pq sm_m110 := ⟨⟨sm_in4 (List.mem_of_getElem? (i := 199) rfl), rfl⟩, by decide +kernel, ⟨sm_in1 (List.mem_of_getElem? (i := 1) rfl), rfl⟩, ⟨by decide +kernel, by decide +kernel⟩, rfl⟩
theorem sm_q111 : sm_Pq sm_m111 := ⟨⟨sm_in4 (List.mem_of_getElem? (i := 203) rfl), rfl⟩, by decide +kernel, ⟨sm_in1 (List.mem_of_getElem? (i := 1) rfl), rfl⟩, ⟨by decide +kernel, by decide +kernel⟩, rfl⟩
theorem sm_q112 : sm_Pq sm_m112 := ⟨⟨sm_in4 (List.mem_of_getElem? (i := 207) rfl), rfl⟩, by decide +kernel, ⟨sm_in1 (List.mem_of_getElem? (i := 1) rfl), rfl⟩, ⟨by decide +kernel, by decide +kernel⟩, rfl⟩
theorem sm_q113 : sm_Pq sm_m113 := ⟨⟨sm_in4 (List.mem_of_getElem? (i := 217) rfl), rfl⟩, by decide +kernel, ⟨sm_in1 (List.mem_of_getElem? (i := 1) rfl), rfl⟩, ⟨by decide +kernel, by decide +kernel⟩, rfl⟩
theorem sm_q114 : sm_Pq sm_m114 := ⟨⟨sm_in4 (List.mem_of_getElem? (i := 226) rfl), rfl⟩, by decide +kernel, ⟨sm_in1 (List.mem_of_getElem? (i := 1) rfl), rfl⟩, ⟨by decide +kernel, by decide +kernel⟩, rfl⟩
theorem sm_q115 : sm_Pq sm_m115 := ⟨⟨sm_in4 (List.mem_of_getElem? (i := 234) rfl), rfl⟩, by decide +kernel, ⟨sm_in1 (List.mem_of_getElem? (i := 1) rfl), rfl⟩, ⟨by decide +kernel, by decide +kernel⟩, rfl⟩
theorem sm_q116 : sm_Pq sm_m116 := ⟨⟨sm_in5 (List.mem_of_getElem? (i := 2) rfl), rfl⟩, by decide +kernel, ⟨sm_in1 (List.mem_of_getElem? (i := 1) rfl), rfl⟩, ⟨by decide +kernel, by decide +kernel⟩, rfl⟩
theorem sm_q117 : sm_Pq sm_m117 := ⟨⟨sm_in5 (List.mem_of_getElem? (i := 10) rfl), rfl⟩, by decide +kernel, ⟨sm_in1 (List.mem_of_getElem? (i := 1) rfl), rfl⟩, ⟨by decide +kernel, by decide +kernel⟩, rfl⟩
theorem sm_q118 : sm_Pq sm_m118 := ⟨⟨sm_in5 (List.mem_of_getElem? (i := 46) rfl), rfl⟩, by decide +kernel, ⟨sm_in1 (List.mem_of_getElem? (i := 1) rfl), rfl⟩, ⟨by decide +kernel, by decide +kernel⟩, rfl⟩
theorem sm_q119 : sm_Pq sm_m119 := ⟨⟨sm_in5 (List.mem_of_getElem? (i := 55) rfl), rfl⟩, by decide +kernel, ⟨sm_in1 (List.mem_of_getElem? (i := 1) rfl), rfl⟩, ⟨by decide +kernel, by decide +kernel⟩, rfl⟩
theorem sm_q120 : sm_Pq sm_m120 := ⟨⟨sm_in5 (List.mem_of_getElem? (i := 64) rfl), rfl⟩, by decide +kernel, ⟨sm_in1 (List.mem_of_getElem? (i := 1) rfl), rfl⟩, ⟨by decide +kernel, by decide +kernel⟩, rfl⟩
theorem sm_q121 : sm_Pq sm_m121 := ⟨⟨sm_in5 (List.mem_of_getElem? (i := 77) rfl), rfl⟩, by decide +kernel, ⟨sm_in1 (List.mem_of_getElem? (i := 1) rfl), rfl⟩, ⟨by decide +kernel, by decide +kernel⟩, rfl⟩
theorem sm_q122 : sm_Pq sm_m122 := ⟨⟨sm_in5 (List.mem_of_getElem? (i := 94) rfl), rfl⟩, by decide +kernel, ⟨sm_in1 (List.mem_of_getElem? (i := 1) rfl), rfl⟩, ⟨by decide +kernel, by decide +kernel⟩, rfl⟩
theorem sm_q123 : sm_Pq sm_m123 := ⟨⟨sm_in5 (List.mem_of_getElem? (i := 99) rfl), rfl⟩, by decide +kernel, ⟨sm_in1 (List.mem_of_getElem? (i := 1) rfl), rfl⟩, ⟨by decide +kernel, by decide +kernel⟩, rfl⟩
theorem sm_q124 : sm_Pq sm_m124 := ⟨⟨sm_in5 (List.mem_of_getElem? (i := 104) rfl), rfl⟩, by decide +kernel, ⟨sm_in1 (List.mem_of_getElem? (i := 1) rfl), rfl⟩, ⟨by decide +kernel, by decide +kernel⟩, rfl⟩
theorem sm_q125 : sm_Pq sm_m125 := ⟨⟨sm_in5 (List.mem_of_getElem? (i := 117) rfl), rfl⟩, by decide +kernel, ⟨sm_in1 (List.mem_of_getElem? (i := 1) rfl), rfl⟩, ⟨by decide +kernel, by decide +kernel⟩, rfl⟩
theorem sm_q126 : sm_Pq sm_m126 := ⟨⟨sm_in2 (List.mem_of_getElem? (i := 143) rfl), rfl⟩, by decide +kernel, ⟨sm_in1 (List.mem_of_getElem? (i := 1) rfl), rfl⟩, ⟨by decide +kernel, by decide +kernel⟩, rfl⟩
theorem sm_q127 : sm_Pq sm_m127 := ⟨⟨sm_in2 (List.mem_of_getElem? (i := 177) rfl), rfl⟩, by decide +kernel, ⟨sm_in1 (List.mem_of_getElem? (i := 1) rfl), rfl⟩, ⟨by decide +kernel, by decide +kernel⟩, rfl⟩
theorem sm_q128 : sm_Pq sm_m128 := ⟨⟨sm_in4 (List.mem_of_getElem? (i := 139) rfl), rfl⟩, by decide +kernel, ⟨sm_in1 (List.mem_of_getElem? (i := 1) rfl), rfl⟩, ⟨by decide +kernel, by decide +kernel⟩, rfl⟩
theorem sm_q129 : sm_Pq sm_m129 := ⟨⟨sm_in2 (List.mem_of_getElem? (i := 155) rfl), rfl⟩, by decide +kernel, ⟨sm_in1 (List.mem_of_getElem? (i := 1) rfl), rfl⟩, ⟨by decide +kernel, by decide +kernel⟩, rfl⟩
theorem sm_q130 : sm_Pq sm_m130 := ⟨⟨sm_in2 (List.mem_of_getElem? (i := 163) rfl), rfl⟩, by decide +kernel, ⟨sm_in1 (List.mem_of_getElem? (i := 1) rfl), rfl⟩, ⟨by decide +kernel, by decide +kernel⟩, rfl⟩
theorem sm_q131 : sm_Pq sm_m131 := ⟨⟨sm_in2 (List.mem_of_getElem? (i := 193) rfl), rfl⟩, by decide +kernel, ⟨sm_in1 (List.mem_of_getElem? (i := 1) rfl), rfl⟩, ⟨by decide +kernel, by decide +kernel⟩, rfl⟩
theorem sm_q132 : sm_Pq sm_m132 := ⟨⟨sm_in2 (List.mem_of_getElem? (i := 201) rfl), rfl⟩, by decide +kernel, ⟨sm_in1 (List.mem_of_getElem? (i := 1) rfl), rfl⟩, ⟨by decide +kernel, by decide +kernel⟩, rfl⟩
theorem sm_q133 : sm_Pq sm_m133 := ⟨⟨sm_in2 (List.mem_of_getElem? (i := 212) rfl), rfl⟩, by decide +kernel, ⟨sm_in1 (List.mem_of_getElem? (i := 1) rfl), rfl⟩, ⟨by decide +kernel, by decide +kernel⟩, rfl⟩
theorem sm_q134 : sm_Pq sm_m134 := ⟨⟨sm_in2 (List.mem_of_getElem? (i := 227) rfl), rfl⟩, by decide +kernel, ⟨sm_in1 (List.mem_of_getElem? (i := 1) rfl), rfl⟩, ⟨by decide +kernel, by decide +kernel⟩, rfl⟩
theorem sm_q135 : sm_Pq sm_m135 := ⟨⟨sm_in3 (List.mem_of_getElem? (i := 180) rfl), rfl⟩, by decide +kernel, ⟨sm_in1 (List.mem_of_getElem? (i := 1) rfl), rfl⟩, ⟨by decide +kernel, by decide +kernel⟩, rfl⟩
theorem sm_q136 : sm_Pq sm_m136 := ⟨⟨sm_in4 (List.mem_of_getElem? (i := 143) rfl), rfl⟩, by decide +kernel, ⟨sm_in1 (List.mem_of_getElem? (i := 1) rfl), rfl⟩, ⟨by decide +kernel, by decide +kernel⟩, rfl⟩
theorem sm_q137 : sm_Pq sm_m137 := ⟨⟨sm_in5 (List.mem_of_getElem? (i := 81) rfl), rfl⟩, by decide +kernel, ⟨sm_in1 (List.mem_of_getElem? (i := 1) rfl), rfl⟩, ⟨by decide +kernel, by decide +kernel⟩, rfl⟩
theorem sm_q138 : sm_Pq sm_m138 := ⟨⟨sm_in3 (List.mem_of_getElem? (i := 193) rfl), rfl⟩, by decide +kernel, ⟨sm_in1 (List.mem_of_getElem? (i := 1) rfl), rfl⟩, ⟨by decide +kernel, by decide +kernel⟩, rfl⟩
theorem sm_q139 : sm_Pq sm_m139 := ⟨⟨sm_in3 (List.mem_of_getElem? (i := 188) rfl), rfl⟩, by decide +kernel, ⟨sm_in1 (List.mem_of_getElem? (i := 1) rfl), rfl⟩, ⟨by decide +kernel, by decide +kernel⟩, rfl⟩
theorem sm_q140 : sm_Pq sm_m140 := ⟨⟨sm_in3 (List.mem_of_getElem? (i := 184) rfl), rfl⟩, by decide +kernel, ⟨sm_in1 (List.mem_of_getElem? (i := 1) rfl), rfl⟩, ⟨by decide +kernel, by decide +kernel⟩, rfl⟩
theorem sm_q141 : sm_Pq sm_m141 := ⟨⟨sm_in3 (List.mem_of_getElem? (i := 233) rfl), rfl⟩, by decide +kernel, ⟨sm_in1 (List.mem_of_getElem? (i := 1) rfl), rfl⟩, ⟨by decide +kernel, by decide +kernel⟩, rfl⟩
theorem sm_q142 : sm_Pq sm_m142 := ⟨⟨sm_in3 (List.mem_of_getElem? (i := 237) rfl), rfl⟩, by decide +kernel, ⟨sm_in1 (List.mem_of_getElem? (i := 1) rfl), rfl⟩, ⟨by decide +kernel, by decide +kernel⟩, rfl⟩
theorem sm_q143 : sm_Pq sm_m143 := ⟨⟨sm_in4 (List.mem_of_getElem? (i := 147) rfl), rfl⟩, by decide +kernel, ⟨sm_in1 (List.mem_of_getElem? (i := 1) rfl), rfl⟩, ⟨by decide +kernel, by decide +kernel⟩, rfl⟩
theorem sm_q144 : sm_Pq sm_m144 := ⟨⟨sm_in4 (List.mem_of_getElem? (i := 155) rfl), rfl⟩, by decide +kernel, ⟨sm_in1 (List.mem_of_getElem? (i := 1) rfl), rfl⟩, ⟨by decide +kernel, by decide +kernel⟩, rfl⟩
theorem sm_q145 : sm_Pq sm_m145 := ⟨⟨sm_in4 (List.mem_of_getElem? (i := 168) rfl), rfl⟩, by decide +kernel, ⟨sm_in1 (List.mem_of_getElem? (i := 1) rfl), rfl⟩, ⟨by decide +kernel, by decide +kernel⟩, rfl⟩
theorem sm_q146 : sm_Pq sm_m146 := ⟨⟨sm_in4 (List.mem_of_getElem? (i := 176) rfl), rfl⟩, by decide +kernel, ⟨sm_in1 (List.mem_of_getElem? (i := 1) rfl), rfl⟩, ⟨by decide +kernel, by decide +kernel⟩, rfl⟩
theorem sm_q147 : sm_Pq sm_m147 := ⟨⟨sm_in4 (List.mem_of_getElem? (i := 187) rfl), rfl⟩, by decide +kernel, ⟨sm_in1 (List.mem_of_getElem? (i := 1) rfl), rfl⟩, ⟨by decide +kernel, by decide +kernel⟩, rfl⟩
theorem sm_q148 : sm_Pq sm_m148 := ⟨⟨sm_in6 (List.mem_of_getElem? (i := 44) rfl), rfl⟩, by decide +kernel, ⟨sm_in1 (List.mem_of_getElem? (i := 13) rfl), rfl⟩, ⟨by decide +kernel, by decide +kernel⟩, rfl⟩
theorem sm_q149 : sm_Pq sm_m149 := ⟨⟨sm_in6 (List.mem_of_getElem? (i := 228) rfl), rfl⟩, by decide +kernel, ⟨sm_in1 (List.mem_of_getElem? (i := 13) rfl), rfl⟩, ⟨by decide +kernel, by decide +kernel⟩, rfl⟩
theorem sm_q150 : sm_Pq sm_m150 := ⟨⟨sm_in6 (List.mem_of_getElem? (i := 221) rfl), rfl⟩, by decide +kernel, ⟨sm_in1 (List.mem_of_getElem? (i := 13) rfl), rfl⟩, ⟨by decide +kernel, by decide +kernel⟩, rfl⟩
theorem sm_q151 : sm_Pq sm_m151 := ⟨⟨sm_in5 (List.mem_of_getElem? (i := 122) rfl), rfl⟩, by decide +kernel, ⟨sm_in1 (List.mem_of_getElem? (i := 13) rfl), rfl⟩, ⟨by decide +kernel, by decide +kernel⟩, rfl⟩
theorem sm_q152 : sm_Pq sm_m152 := ⟨⟨sm_in6 (List.mem_of_getElem? (i := 92) rfl), rfl⟩, by decide +kernel, ⟨sm_in1 (List.mem_of_getElem? (i := 13) rfl), rfl⟩, ⟨by decide +kernel, by decide +kernel⟩, rfl⟩
theorem sm_q153 : sm_Pq sm_m153 := ⟨⟨sm_in6 (List.mem_of_getElem? (i := 32) rfl), rfl⟩, by decide +kernel, ⟨sm_in1 (List.mem_of_getElem? (i := 13) rfl), rfl⟩, ⟨by decide +kernel, by decide +kernel⟩, rfl⟩
theorem sm_q154 : sm_Pq sm_m154 := ⟨⟨sm_in6 (List.mem_of_getElem? (i := 36) rfl), rfl⟩, by decide +kernel, ⟨sm_in1 (List.mem_of_getElem? (i := 13) rfl), rfl⟩, ⟨by decide +kernel, by decide +kernel⟩, rfl⟩
theorem sm_q155 : sm_Pq sm_m155 := ⟨⟨sm_in6 (List.mem_of_getElem? (i := 56) rfl), rfl⟩, by decide +kernel, ⟨sm_in1 (List.mem_of_getElem? (i := 13) rfl), rfl⟩, ⟨by decide +kernel, by decide +kernel⟩, rfl⟩
theorem sm_q156 : sm_Pq sm_m156 := ⟨⟨sm_in6 (List.mem_of_getElem? (i := 83) rfl), rfl⟩, by decide +kernel, ⟨sm_in1 (List.mem_of_getElem? (i := 13) rfl), rfl⟩, ⟨by decide +kernel, by decide +kernel⟩, rfl⟩
theorem sm_q157 : sm_Pq sm_m157 := ⟨⟨sm_in6 (List.mem_of_getElem? (i := 40) rfl), rfl⟩, by decide +kernel, ⟨sm_in1 (List.mem_of_getElem? (i := 13) rfl), rfl⟩, ⟨by decide +kernel, by decide +kernel⟩, rfl⟩
theorem sm_q158 : sm_Pq sm_m158 := ⟨⟨sm_in6 (List.mem_of_getElem? (i := 52) rfl), rfl⟩, by decide +kernel, ⟨sm_in1 (List.mem_of_getElem? (i := 13) rfl), rfl⟩, ⟨by decide +kernel, by decide +kernel⟩, rfl⟩
theorem sm_q159 : sm_Pq sm_m159 := ⟨⟨sm_in6 (List.mem_of_getElem? (i := 61) rfl), rfl⟩, by decide +kernel, ⟨sm_in1 (List.mem_of_getElem? (i := 13) rfl), rfl⟩, ⟨by decide +kernel, by decide +kernel⟩, rfl⟩
theorem sm_q160 : sm_Pq sm_m160 := ⟨⟨sm_in6 (List.mem_of_getElem? (i := 48) rfl), rfl⟩, by decide +kernel, ⟨sm_in1 (List.mem_of_getElem? (i := 13) rfl), rfl⟩, ⟨by decide +kernel, by decide +kernel⟩, rfl⟩
theorem sm_q161 : sm_Pq sm_m161 := ⟨⟨sm_in6 (List.mem_of_getElem? (i := 65) rfl), rfl⟩, by decide +kernel, ⟨sm_in1 (List.mem_of_getElem? (i := 13) rfl), rfl⟩, ⟨by decide +kernel, by decide +kernel⟩, rfl⟩
theorem sm_q162 : sm_Pq sm_m162 := ⟨⟨sm_in6 (List.mem_of_getElem? (i := 78) rfl), rfl⟩, by decide +kernel, ⟨sm_in1 (List.mem_of_getElem? (i := 13) rfl), rfl⟩, ⟨by decide +kernel, by decide +kernel⟩, rfl⟩
theorem sm_q163 : sm_Pq sm_m163 := ⟨⟨sm_in6 (List.mem_of_getElem? (i := 88) rfl), rfl⟩, by decide +kernel, ⟨sm_in1 (List.mem_of_getElem? (i := 13) rfl), rfl⟩, ⟨by decide +kernel, by decide +kernel⟩, rfl⟩
theorem sm_q164 : sm_Pq sm_m164 := ⟨⟨sm_in6 (List.mem_of_getElem? (i := 74) rfl), rfl⟩, by decide +kernel, ⟨sm_in1 (List.mem_of_getElem? (i := 13) rfl), rfl⟩, ⟨by decide +kernel, by decide +kernel⟩, rfl⟩
theorem sm_q165 : sm_Pq sm_m165 := ⟨⟨sm_in6 (List.mem_of_getElem? (i := 97) rfl), rfl⟩, by decide +kernel, ⟨sm_in1 (List.mem_of_getElem? (i := 13) rfl), rfl⟩, ⟨by decide +kernel, by decide +kernel⟩, rfl⟩
theorem sm_q166 : sm_Pq sm_m166 := ⟨⟨sm_in6 (List.mem_of_getElem? (i := 101) rfl), rfl⟩, by decide +kernel, ⟨sm_in1 (List.mem_of_getElem? (i := 13) rfl), rfl⟩, ⟨by decide +kernel, by decide +kernel⟩, rfl⟩
theorem sm_q167 : sm_Pq sm_m167 := ⟨⟨sm_in6 (List.mem_of_getElem? (i := 138) rfl), rfl⟩, by decide +kernel, ⟨sm_in1 (List.mem_of_getElem? (i := 13) rfl), rfl⟩, ⟨by decide +kernel, by decide +kernel⟩, rfl⟩
theorem sm_q168 : sm_Pq sm_m168 := ⟨⟨sm_in6 (List.mem_of_getElem? (i := 142) rfl), rfl⟩, by decide +kernel, ⟨sm_in1 (List.mem_of_getElem? (i := 13) rfl), rfl⟩, ⟨by decide +kernel, by decide +kernel⟩, rfl⟩
theorem sm_q169 : sm_Pq sm_m169 := ⟨⟨sm_in6 (List.mem_of_getElem? (i := 146) rfl), rfl⟩, by decide +kernel, ⟨sm_in1 (List.mem_of_getElem? (i := 13) rfl), rfl⟩, ⟨by decide +kernel, by decide +kernel⟩, rfl⟩
theorem sm_q170 : sm_Pq sm_m170 := ⟨⟨sm_in6 (List.mem_of_getElem? (i := 114) rfl), rfl⟩, by decide +kernel, ⟨sm_in1 (List.mem_of_getElem? (i := 13) rfl), rfl⟩, ⟨by decide +kernel, by decide +kernel⟩, rfl⟩
theorem sm_q171 : sm_Pq sm_m171 := ⟨⟨sm_in6 (List.mem_of_getElem? (i := 118) rfl), rfl⟩, by decide +kernel, ⟨sm_in1 (List.mem_of_getElem? (i := 13) rfl), rfl⟩, ⟨by decide +kernel, by decide +kernel⟩, rfl⟩
theorem sm_q172 : sm_Pq sm_m172 := ⟨⟨sm_in6 (List.mem_of_getElem? (i := 122) rfl), rfl⟩, by decide +kernel, ⟨sm_in1 (List.mem_of_getElem? (i := 13) rfl), rfl⟩, ⟨by decide +kernel, by decide +kernel⟩, rfl⟩
theorem sm_q173 : sm_Pq sm_m173 := ⟨⟨sm_in6 (List.mem_of_getElem? (i := 126) rfl), rfl⟩, by decide +kernel, ⟨sm_in1 (List.mem_of_getElem? (i := 13) rfl), rfl⟩, ⟨by decide +kernel, by decide +kernel⟩, rfl⟩
theorem sm_q174 : sm_Pq sm_m174 := ⟨⟨sm_in6 (List.mem_of_getElem? (i := 130) rfl), rfl⟩, by decide +kernel, ⟨sm_in1 (List.mem_of_getElem? (i := 13) rfl), rfl⟩, ⟨by decide +kernel, by decide +kernel⟩, rfl⟩
theorem sm_q175 : sm_Pq sm_m175 := ⟨⟨sm_in6 (List.mem_of_getElem? (i := 149) rfl), rfl⟩, by decide +kernel, ⟨sm_in1 (List.mem_of_getElem? (i := 13) rfl), rfl⟩, ⟨by decide +kernel, by decide +kernel⟩, rfl⟩
theorem sm_q176 : sm_Pq sm_m176 := ⟨⟨sm_in6 (List.mem_of_getElem? (i := 134) rfl), rfl⟩, by decide +kernel, ⟨sm_in1 (List.mem_of_getElem? (i := 13) rfl), rfl⟩, ⟨by decide +kernel, by decide +kernel⟩, rfl⟩
theorem sm_q177 : sm_Pq sm_m177 := ⟨⟨sm_in6 (List.mem_of_getElem? (i := 110) rfl), rfl⟩, by decide +kernel, ⟨sm_in1 (List.mem_of_getElem? (i := 13) rfl), rfl⟩, ⟨by decide +kernel, by decide +kernel⟩, rfl⟩
theorem sm_q178 : sm_Pq sm_m178 := ⟨⟨sm_in6 (List.mem_of_getElem? (i := 106) rfl), rfl⟩, by decide +kernel, ⟨sm_in1 (List.mem_of_getElem? (i := 13) rfl), rfl⟩, ⟨by decide +kernel, by decide +kernel⟩, rfl⟩
theorem sm_q179 : sm_Pq sm_m179 := ⟨⟨sm_in6 (List.mem_of_getElem? (i := 157) rfl), rfl⟩, by decide +kernel, ⟨sm_in1 (List.mem_of_getElem? (i := 13) rfl), rfl⟩, ⟨by decide +kernel, by decide +kernel⟩, rfl⟩
theorem sm_q180 : sm_Pq sm_m180 := ⟨⟨sm_in6 (List.mem_of_getElem? (i := 165) rfl), rfl⟩, by decide +kernel, ⟨sm_in1 (List.mem_of_getElem? (i := 13) rfl), rfl⟩, ⟨by decide +kernel, by decide +kernel⟩, rfl⟩
theorem sm_q181 : sm_Pq sm_m181 := ⟨⟨sm_in6 (List.mem_of_getElem? (i := 161) rfl), rfl⟩, by decide +kernel, ⟨sm_in1 (List.mem_of_getElem? (i := 13) rfl), rfl⟩, ⟨by decide +kernel, by decide +kernel⟩, rfl⟩
theorem sm_q182 : sm_Pq sm_m182 := ⟨⟨sm_in6 (List.mem_of_getElem? (i := 190) rfl), rfl⟩, by decide +kernel, ⟨sm_in1 (List.mem_of_getElem? (i := 13) rfl), rfl⟩, ⟨by decide +kernel, by decide +kernel⟩, rfl⟩
theorem sm_q183 : sm_Pq sm_m183 := ⟨⟨sm_in6 (List.mem_of_getElem? (i := 187) rfl), rfl⟩, by decide +kernel, ⟨sm_in1 (List.mem_of_getElem? (i := 13) rfl), rfl⟩, ⟨by decide +kernel, by decide +kernel⟩, rfl⟩
theorem sm_q184 : sm_Pq sm_m184 := ⟨⟨sm_in6 (List.mem_of_getElem? (i := 153) rfl), rfl⟩, by decide +kernel, ⟨sm_in1 (List.mem_of_getElem? (i := 13) rfl), rfl⟩, ⟨by decide +kernel, by decide +kernel⟩, rfl⟩
theorem sm_q185 : sm_Pq sm_m185 := ⟨⟨sm_in6 (List.mem_of_getElem? (i := 173) rfl), rfl⟩, by decide +kernel, ⟨sm_in1 (List.mem_of_getElem? (i := 13) rfl), rfl⟩, ⟨by decide +kernel, by decide +kernel⟩, rfl⟩
theorem sm_q186 : sm_Pq sm_m186 := ⟨⟨sm_in6 (List.mem_of_getElem? (i := 183) rfl), rfl⟩, by decide +kernel, ⟨sm_in1 (List.mem_of_getElem? (i := 13) rfl), rfl⟩, ⟨by decide +kernel, by decide +kernel⟩, rfl⟩
theorem sm_q187 : sm_Pq sm_m187 := ⟨⟨sm_in6 (List.mem_of_getElem? (i := 179) rfl), rfl⟩, by decide +kernel, ⟨sm_in1 (List.mem_of_getElem? (i := 13) rfl), rfl⟩, ⟨by decide +kernel, by decide +kernel⟩, rfl⟩
theorem sm_q188 : sm_Pq sm_m188 := ⟨⟨sm_in6 (List.mem_of_getElem? (i := 169) rfl), rfl⟩, by decide +kernel, ⟨sm_in1 (List.mem_of_getElem? (i := 13) rfl), rfl⟩, ⟨by decide +kernel, by decide +kernel⟩, rfl⟩
theorem sm_q189 : sm_Pq sm_m189 := ⟨⟨sm_in6 (List.mem_of_getElem? (i := 194) rfl), rfl⟩, by decide +kernel, ⟨sm_in1 (List.mem_of_getElem? (i := 13) rfl), rfl⟩, ⟨by decide +kernel, by decide +kernel⟩, rfl⟩
theorem sm_q190 : sm_Pq sm_m190 := ⟨⟨sm_in6 (List.mem_of_getElem? (i := 198) rfl), rfl⟩, by decide +kernel, ⟨sm_in1 (List.mem_of_getElem? (i := 13) rfl), rfl⟩, ⟨by decide +kernel, by decide +kernel⟩, rfl⟩
theorem sm_q191 : sm_Pq sm_m191 := ⟨⟨sm_in6 (List.mem_of_getElem? (i := 206) rfl), rfl⟩, by decide +kernel, ⟨sm_in1 (List.mem_of_getElem? (i := 13) rfl), rfl⟩, ⟨by decide +kernel, by decide +kernel⟩, rfl⟩
theorem sm_q192 : sm_Pq sm_m192 := ⟨⟨sm_in6 (List.mem_of_getElem? (i := 202) rfl), rfl⟩, by decide +kernel, ⟨sm_in1 (List.mem_of_getElem? (i := 13) rfl), rfl⟩, ⟨by decide +kernel, by decide +kernel⟩, rfl⟩
theorem sm_q193 : sm_Pq sm_m193 := ⟨⟨sm_in6 (List.mem_of_getElem? (i := 210) rfl), rfl⟩, by decide +kernel, ⟨sm_in1 (List.mem_of_getElem? (i := 13) rfl), rfl⟩, ⟨by decide +kernel, by decide +kernel⟩, rfl⟩
theorem sm_q194 : sm_Pq sm_m194 := ⟨⟨sm_in6 (List.mem_of_getElem? (i := 225) rfl), rfl⟩, by decide +kernel, ⟨sm_in1 (List.mem_of_getElem? (i := 13) rfl), rfl⟩, ⟨by decide +kernel, by decide +kernel⟩, rfl⟩
theorem sm_q195 : sm_Pq sm_m195 := ⟨⟨sm_in6 (List.mem_of_getElem? (i := 218) rfl), rfl⟩, by decide +kernel, ⟨sm_in1 (List.mem_of_getElem? (i := 13) rfl), rfl⟩, ⟨by decide +kernel, by decide +kernel⟩, rfl⟩
theorem sm_q196 : sm_Pq sm_m196 := ⟨⟨sm_in6 (List.mem_of_getElem? (i := 214) rfl), rfl⟩, by decide +kernel, ⟨sm_in1 (List.mem_of_getElem? (i := 13) rfl), rfl⟩, ⟨by decide +kernel, by decide +kernel⟩, rfl⟩
theorem sm_q197 : sm_Pq sm_m197 := ⟨⟨sm_in6 (List.mem_of_getElem? (i := 233) rfl), rfl⟩, by decide +kernel, ⟨sm_in1 (List.mem_of_getElem? (i := 13) rfl), rfl⟩, ⟨by decide +kernel, by decide +kernel⟩, rfl⟩
theorem sm_q198 : sm_Pq sm_m198 := ⟨⟨sm_in7 (List.mem_of_getElem? (i := 2) rfl), rfl⟩, by decide +kernel, ⟨sm_in1 (List.mem_of_getElem? (i := 13) rfl), rfl⟩, ⟨by decide +kernel, by decide +kernel⟩, rfl⟩
theorem sm_q199 : sm_Pq sm_m199 := ⟨⟨sm_in6 (List.mem_of_getElem? (i := 237) rfl), rfl⟩, by decide +kernel, ⟨sm_in1 (List.mem_of_getElem? (i := 13) rfl), rfl⟩, ⟨by decide +kernel, by decide +kernel⟩, rfl⟩
theorem sm_q200 : sm_Pq sm_m200 := ⟨⟨sm_in7 (List.mem_of_getElem? (i := 6) rfl), rfl⟩, by decide +kernel, ⟨sm_in1 (List.mem_of_getElem? (i := 13) rfl), rfl⟩, ⟨by decide +kernel, by decide +kernel⟩, rfl⟩
theorem sm_q201 : sm_Pq sm_m201 := ⟨⟨sm_in7 (List.mem_of_getElem? (i := 18) rfl), rfl⟩, by decide +kernel, ⟨sm_in1 (List.mem_of_getElem? (i := 13) rfl), rfl⟩, ⟨by decide +kernel, by decide +kernel⟩, rfl⟩
theorem sm_q202 : sm_Pq sm_m202 := ⟨⟨sm_in7 (List.mem_of_getElem? (i := 14) rfl), rfl⟩, by decide +kernel, ⟨sm_in1 (List.mem_of_getElem? (i := 13) rfl), rfl⟩, ⟨by decide +kernel, by decide +kernel⟩, rfl⟩
theorem sm_q203 : sm_Pq sm_m203 := ⟨⟨sm_in7 (List.mem_of_getElem? (i := 10) rfl), rfl⟩, by decide +kernel, ⟨sm_in1 (List.mem_of_getElem? (i := 13) rfl), rfl⟩, ⟨by decide +kernel, by decide +kernel⟩, rfl⟩
theorem sm_q204 : sm_Pq sm_m204 := ⟨⟨sm_in7 (List.mem_of_getElem? (i := 22) rfl), rfl⟩, by decide +kernel, ⟨sm_in1 (List.mem_of_getElem? (i := 13) rfl), rfl⟩, ⟨by decide +kernel, by decide +kernel⟩, rfl⟩
theorem sm_q205 : sm_Pq sm_m205 := ⟨⟨sm_in7 (List.mem_of_getElem? (i := 30) rfl), rfl⟩, by decide +kernel, ⟨sm_in1 (List.mem_of_getElem? (i := 13) rfl), rfl⟩, ⟨by decide +kernel, by decide +kernel⟩, rfl⟩
theorem sm_q206 : sm_Pq sm_m206 := ⟨⟨sm_in7 (List.mem_of_getElem? (i := 34) rfl), rfl⟩, by decide +kernel, ⟨sm_in1 (List.mem_of_getElem? (i := 13) rfl), rfl⟩, ⟨by decide +kernel, by decide +kernel⟩, rfl⟩
theorem sm_q207 : sm_Pq sm_m207 := ⟨⟨sm_in7 (List.mem_of_getElem? (i := 26) rfl), rfl⟩, by decide +kernel, ⟨sm_in1 (List.mem_of_getElem? (i := 13) rfl), rfl⟩, ⟨by decide +kernel, by decide +kernel⟩, rfl⟩
theorem sm_q208 : sm_Pq sm_m208 := ⟨⟨sm_in7 (List.mem_of_getElem? (i := 38) rfl), rfl⟩, by decide +kernel, ⟨sm_in1 (List.mem_of_getElem? (i := 13) rfl), rfl⟩, ⟨by decide +kernel, by decide +kernel⟩, rfl⟩
theorem sm_q209 : sm_Pq sm_m209 := ⟨⟨sm_in7 (List.mem_of_getElem? (i := 43) rfl), rfl⟩, by decide +kernel, ⟨sm_in1 (List.mem_of_getElem? (i := 13) rfl), rfl⟩, ⟨by decide +kernel, by decide +kernel⟩, rfl⟩
theorem sm_q210 : sm_Pq sm_m210 := ⟨⟨sm_in7 (List.mem_of_getElem? (i := 51) rfl), rfl⟩, by decide +kernel, ⟨sm_in1 (List.mem_of_getElem? (i := 13) rfl), rfl⟩, ⟨by decide +kernel, by decide +kernel⟩, rfl⟩
theorem sm_q211 : sm_Pq sm_m211 := ⟨⟨sm_in7 (List.mem_of_getElem? (i := 47) rfl), rfl⟩, by decide +kernel, ⟨sm_in1 (List.mem_of_getElem? (i := 13) rfl), rfl⟩, ⟨by decide +kernel, by decide +kernel⟩, rfl⟩
theorem sm_q212 : sm_Pq sm_m212 := ⟨⟨sm_in7 (List.mem_of_getElem? (i := 55) rfl), rfl⟩, by decide +kernel, ⟨sm_in1 (List.mem_of_getElem? (i := 13) rfl), rfl⟩, ⟨by decide +kernel, by decide +kernel⟩, rfl⟩
theorem sm_q213 : sm_Pq sm_m213 := ⟨⟨sm_in7 (List.mem_of_getElem? (i := 61) rfl), rfl⟩, by decide +kernel, ⟨sm_in1 (List.mem_of_getElem? (i := 13) rfl), rfl⟩, ⟨by decide +kernel, by decide +kernel⟩, rfl⟩
theorem sm_q214 : sm_Pq sm_m214 := ⟨⟨sm_in7 (List.mem_of_getElem? (i := 65) rfl), rfl⟩, by decide +kernel, ⟨sm_in1 (List.mem_of_getElem? (i := 13) rfl), rfl⟩, ⟨by decide +kernel, by decide +kernel⟩, rfl⟩
theorem sm_q215 : sm_Pq sm_m215 := ⟨⟨sm_in7 (List.mem_of_getElem? (i := 69) rfl), rfl⟩, by decide +kernel, ⟨sm_in1 (List.mem_of_getElem? (i := 13) rfl), rfl⟩, ⟨by decide +kernel, by decide +kernel⟩, rfl⟩
theorem sm_q216 : sm_Pq sm_m216 := ⟨⟨sm_in7 (List.mem_of_getElem? (i := 73) rfl), rfl⟩, by decide +kernel, ⟨sm_in1 (List.mem_of_getElem? (i := 13) rfl), rfl⟩, ⟨by decide +kernel, by decide +kernel⟩, rfl⟩
theorem sm_q217 : sm_Pq sm_m217 := ⟨⟨sm_in7 (List.mem_of_getElem? (i := 77) rfl), rfl⟩, by decide +kernel, ⟨sm_in1 (List.mem_of_getElem? (i := 13) rfl), rfl⟩, ⟨by decide +kernel, by decide +kernel⟩, rfl⟩
theorem sm_q218 : sm_Pq sm_m218 := ⟨⟨sm_in7 (List.mem_of_getElem? (i := 81) rfl), rfl⟩, by decide +kernel, ⟨sm_in1 (List.mem_of_getElem? (i := 13) rfl), rfl⟩, ⟨by decide +kernel, by decide +kernel⟩, rfl⟩
theorem sm_q219 : sm_Pq sm_m219 := ⟨⟨sm_in7 (List.mem_of_getElem? (i := 93) rfl), rfl⟩, by decide +kernel, ⟨sm_in1 (List.mem_of_getElem? (i := 13) rfl), rfl⟩, ⟨by decide +kernel, by decide +kernel⟩, rfl⟩
theorem sm_q220 : sm_Pq sm_m220 := ⟨⟨sm_in7 (List.mem_of_getElem? (i := 153) rfl), rfl⟩, by decide +kernel, ⟨sm_in1 (List.mem_of_getElem? (i := 13) rfl), rfl⟩, ⟨by decide +kernel, by decide +kernel⟩, rfl⟩
theorem sm_q221 : sm_Pq sm_m221 := ⟨⟨sm_in7 (List.mem_of_getElem? (i := 85) rfl), rfl⟩, by decide +kernel, ⟨sm_in1 (List.mem_of_getElem? (i := 13) rfl), rfl⟩, ⟨by decide +kernel, by decide +kernel⟩, rfl⟩
theorem sm_q222 : sm_Pq sm_m222 := ⟨⟨sm_in7 (List.mem_of_getElem? (i := 156) rfl), rfl⟩, by decide +kernel, ⟨sm_in1 (List.mem_of_getElem? (i := 13) rfl), rfl⟩, ⟨by decide +kernel, by decide +kernel⟩, rfl⟩
theorem sm_q223 : sm_Pq sm_m223 := ⟨⟨sm_in7 (List.mem_of_getElem? (i := 101) rfl), rfl⟩, by decide +kernel, ⟨sm_in1 (List.mem_of_getElem? (i := 13) rfl), rfl⟩, ⟨by decide +kernel, by decide +kernel⟩, rfl⟩
theorem sm_q224 : sm_Pq sm_m224 := ⟨⟨sm_in7 (List.mem_of_getElem? (i := 97) rfl), rfl⟩, by decide +kernel, ⟨sm_in1 (List.mem_of_getElem? (i := 13) rfl), rfl⟩, ⟨by decide +kernel, by decide +kernel⟩, rfl⟩
theorem sm_q225 : sm_Pq sm_m225 := ⟨⟨sm_in7 (List.mem_of_getElem? (i := 105) rfl), rfl⟩, by decide +kernel, ⟨sm_in1 (List.mem_of_getElem? (i := 13) rfl), rfl⟩, ⟨by decide +kernel, by decide +kernel⟩, rfl⟩
theorem sm_q226 : sm_Pq sm_m226 := ⟨⟨sm_in7 (List.mem_of_getElem? (i := 109) rfl), rfl⟩, by decide +kernel, ⟨sm_in1 (List.mem_of_getElem? (i := 13) rfl), rfl⟩, ⟨by decide +kernel, by decide +kernel⟩, rfl⟩
theorem sm_q227 : sm_Pq sm_m227 := ⟨⟨sm_in7 (List.mem_of_getElem? (i := 113) rfl), rfl⟩, by decide +kernel, ⟨sm_in1 (List.mem_of_getElem? (i := 13) rfl), rfl⟩, ⟨by decide +kernel, by decide +kernel⟩, rfl⟩
theorem sm_q228 : sm_Pq sm_m228 := ⟨⟨sm_in7 (List.mem_of_getElem? (i := 89) rfl), rfl⟩, by decide +kernel, ⟨sm_in1 (List.mem_of_getElem? (i := 13) rfl), rfl⟩, ⟨by decide +kernel, by decide +kernel⟩, rfl⟩
theorem sm_q229 : sm_Pq sm_m229 := ⟨⟨sm_in7 (List.mem_of_getElem? (i := 117) rfl), rfl⟩, by decide +kernel, ⟨sm_in1 (List.mem_of_getElem? (i := 13) rfl), rfl⟩, ⟨by decide +kernel, by decide +kernel⟩, rfl⟩
theorem sm_q230 : sm_Pq sm_m230 := ⟨⟨sm_in6 (List.mem_of_getElem? (i := 68) rfl), rfl⟩, by decide +kernel, ⟨sm_in1 (List.mem_of_getElem? (i := 13) rfl), rfl⟩, ⟨by decide +kernel, by decide +kernel⟩, rfl⟩
theorem sm_q231 : sm_Pq sm_m231 := ⟨⟨sm_in7 (List.mem_of_getElem? (i := 121) rfl), rfl⟩, by decide +kernel, ⟨sm_in1 (List.mem_of_getElem? (i := 13) rfl), rfl⟩, ⟨by decide +kernel, by decide +kernel⟩, rfl⟩
theorem sm_q232 : sm_Pq sm_m232 := ⟨⟨sm_in7 (List.mem_of_getElem? (i := 125) rfl), rfl⟩, by decide +kernel, ⟨sm_in1 (List.mem_of_getElem? (i := 13) rfl), rfl⟩, ⟨by decide +kernel, by decide +kernel⟩, rfl⟩
theorem sm_q233 : sm_Pq sm_m233 := ⟨⟨sm_in7 (List.mem_of_getElem? (i := 133) rfl), rfl⟩, by decide +kernel, ⟨sm_in1 (List.mem_of_getElem? (i := 13) rfl), rfl⟩, ⟨by decide +kernel, by decide +kernel⟩, rfl⟩
theorem sm_q234 : sm_Pq sm_m234 := ⟨⟨sm_in7 (List.mem_of_getElem? (i := 136) rfl), rfl⟩, by decide +kernel, ⟨sm_in1 (List.mem_of_getElem? (i := 13) rfl), rfl⟩, ⟨by decide +kernel, by decide +kernel⟩, rfl⟩
theorem sm_q235 : sm_Pq sm_m235 := ⟨⟨sm_in7 (List.mem_of_getElem? (i := 129) rfl), rfl⟩, by decide +kernel, ⟨sm_in1 (List.mem_of_getElem? (i := 13) rfl), rfl⟩, ⟨by decide +kernel, by decide +kernel⟩, rfl⟩
theorem sm_q236 : sm_Pq sm_m236 := ⟨⟨sm_in7 (List.mem_of_getElem? (i := 140) rfl), rfl⟩, by decide +kernel, ⟨sm_in1 (List.mem_of_getElem? (i := 13) rfl), rfl⟩, ⟨by decide +kernel, by decide +kernel⟩, rfl⟩
theorem sm_q237 : sm_Pq sm_m237 := ⟨⟨sm_in7 (List.mem_of_getElem? (i := 145) rfl), rfl⟩, by decide +kernel, ⟨sm_in1 (List.mem_of_getElem? (i := 13) rfl), rfl⟩, ⟨by decide +kernel, by decide +kernel⟩, rfl⟩
theorem sm_q238 : sm_Pq sm_m238 := ⟨⟨sm_in7 (List.mem_of_getElem? (i := 149) rfl), rfl⟩, by decide +kernel, ⟨sm_in1 (List.mem_of_getElem? (i := 13) rfl), rfl⟩, ⟨by decide +kernel, by decide +kernel⟩, rfl⟩
theorem sm_q239 : sm_Pq sm_m239 := ⟨⟨sm_in7 (List.mem_of_getElem? (i := 160) rfl), rfl⟩, by decide +kernel, ⟨sm_in1 (List.mem_of_getElem? (i := 13) rfl), rfl⟩, ⟨by decide +kernel, by decide +kernel⟩, rfl⟩
theorem sm_q240 : sm_Pq sm_m240 := ⟨⟨sm_in4 (List.mem_of_getElem? (i := 29) rfl), rfl⟩, by decide +kernel, ⟨sm_in1 (List.mem_of_getElem? (i := 21) rfl), rfl⟩, ⟨by decide +kernel, by decide +kernel⟩, rfl⟩
theorem sm_q241 : sm_Pq sm_m241 := ⟨⟨sm_in3 (List.mem_of_getElem? (i := 42) rfl), rfl⟩, by decide +kernel, ⟨sm_in1 (List.mem_of_getElem? (i := 16) rfl), rfl⟩, ⟨by decide +kernel, by decide +kernel⟩, rfl⟩
theorem sm_q242 : sm_Pq sm_m242 := ⟨⟨sm_in3 (List.mem_of_getElem? (i := 28) rfl), rfl⟩, by decide +kernel, ⟨sm_in1 (List.mem_of_getElem? (i := 16) rfl), rfl⟩, ⟨by decide +kernel, by decide +kernel⟩, rfl⟩
theorem sm_q243 : sm_Pq sm_m243 := ⟨⟨sm_in3 (List.mem_of_getElem? (i := 32) rfl), rfl⟩, by decide +kernel, ⟨sm_in1 (List.mem_of_getElem? (i := 16) rfl), rfl⟩, ⟨by decide +kernel, by decide +kernel⟩, rfl⟩
theorem sm_q244 : sm_Pq sm_m244 := ⟨⟨sm_in3 (List.mem_of_getElem? (i := 46) rfl), rfl⟩, by decide +kernel, ⟨sm_in1 (List.mem_of_getElem? (i := 16) rfl), rfl⟩, ⟨by decide +kernel, by decide +kernel⟩, rfl⟩
theorem sm_q245 : sm_Pq sm_m245 := ⟨⟨sm_in3 (List.mem_of_getElem? (i := 36) rfl), rfl⟩, by decide +kernel, ⟨sm_in1 (List.mem_of_getElem? (i := 16) rfl), rfl⟩, ⟨by decide +kernel, by decide +kernel⟩, rfl⟩
theorem sm_q246 : sm_Pq sm_m246 := ⟨⟨sm_in3 (List.mem_of_getElem? (i := 52) rfl), rfl⟩, by decide +kernel, ⟨sm_in1 (List.mem_of_getElem? (i := 17) rfl), rfl⟩, ⟨by decide +kernel, by decide +kernel⟩, rfl⟩
theorem sm_q247 : sm_Pq sm_m247 := ⟨⟨sm_in3 (List.mem_of_getElem? (i := 49) rfl), rfl⟩, by decide +kernel, ⟨sm_in1 (List.mem_of_getElem? (i := 17) rfl), rfl⟩, ⟨by decide +kernel, by decide +kernel⟩, rfl⟩
theorem sm_q248 : sm_Pq sm_m248 := ⟨⟨sm_in3 (List.mem_of_getElem? (i := 59) rfl), rfl⟩, by decide +kernel, ⟨sm_in1 (List.mem_of_getElem? (i := 17) rfl), rfl⟩, ⟨by decide +kernel, by decide +kernel⟩, rfl⟩
theorem sm_q249 : sm_Pq sm_m249 := ⟨⟨sm_in5 (List.mem_of_getElem? (i := 73) rfl), rfl⟩, by decide +kernel, ⟨sm_in1 (List.mem_of_getElem? (i := 22) rfl), rfl⟩, ⟨by decide +kernel, by decide +kernel⟩, rfl⟩
theorem sm_q250 : sm_Pq sm_m250 := ⟨⟨sm_in4 (List.mem_of_getElem? (i := 113) rfl), rfl⟩, by decide +kernel, ⟨sm_in1 (List.mem_of_getElem? (i := 22) rfl), rfl⟩, ⟨by decide +kernel, by decide +kernel⟩, rfl⟩
set_option maxRecDepth 100000 in
theorem sm_qM : ∀ q ∈ [sm_m0, sm_m1, sm_m2, sm_m3, sm_m4, sm_m5, sm_m6, sm_m7, sm_m8, sm_m9, sm_m10, sm_m11, sm_m12, sm_m13, sm_m14, sm_m15, sm_m16, sm_m17, sm_m18, sm_m19, sm_m20, sm_m21, sm_m22, sm_m23, sm_m24, sm_m25, sm_m26, sm_m27, sm_m28, sm_m29, sm_m30, sm_m31, sm_m32, sm_m33, sm_m34, sm_m35, sm_m36, sm_m37, sm_m38, sm_m39, sm_m40, sm_m41, sm_m42, sm_m43, sm_m44, sm_m45, sm_m46, sm_m47, sm_m48, sm_m49, sm_m50, sm_m51, sm_m52, sm_m53, sm_m54, sm_m55, sm_m56, sm_m57, sm_m58, sm_m59, sm_m60, sm_m61, sm_m62, sm_m63, sm_m64, sm_m65, sm_m66, sm_m67, sm_m68, sm_m69, sm_m70, sm_m71, sm_m72, sm_m73, sm_m74, sm_m75, sm_m76, sm_m77, sm_m78, sm_m79, sm_m80, sm_m81, sm_m82, sm_m83, sm_m84, sm_m85, sm_m86, sm_m87, sm_m88, sm_m89, sm_m90, sm_m91, sm_m92, sm_m93, sm_m94, sm_m95, sm_m96, sm_m97, sm_m98, sm_m99, sm_m100, sm_m101, sm_m102, sm_m103, sm_m104, sm_m105, sm_m106, sm_m107, sm_m108, sm_m109, sm_m110, sm_m111, sm_m112, sm_m113, sm_m114, sm_m115, sm_m116, sm_m117, sm_m118, sm_m119, sm_m120, sm_m121, sm_m122, sm_m123, sm_m124, sm_m125, sm_m126, sm_m127, sm_m128, sm_m129, sm_m130, sm_m131, sm_m132, sm_m133, sm_m134, sm_m135, sm_m136, sm_m137, sm_m138, sm_m139, sm_m140, sm_m141, sm_m142, sm_m143, sm_m144, sm_m145, sm_m146, sm_m147, sm_m148, sm_m149, sm_m150, sm_m151, sm_m152, sm_m153, sm_m154, sm_m155, sm_m156, sm_m157, sm_m158, sm_m159, sm_m160, sm_m161, sm_m162, sm_m163, sm_m164, sm_m165, sm_m166, sm_m167, sm_m168, sm_m169, sm_m170, sm_m171, sm_m172, sm_m173, sm_m174, sm_m175, sm_m176, sm_m177, sm_m178, sm_m179, sm_m180, sm_m181, sm_m182, sm_m183, sm_m184, sm_m185, sm_m186, sm_m187, sm_m188, sm_m189, sm_m190, sm_m191, sm_m192, sm_m193, sm_m194, sm_m195, sm_m196, sm_m197, sm_m198, sm_m199, sm_m200, sm_m201, sm_m202, sm_m203, sm_m204, sm_m205, sm_m206, sm_m207, sm_m208, sm_m209, sm_m210, sm_m211, sm_m212, sm_m213, sm_m214, sm_m215, sm_m216, sm_m217, sm_m218, sm_m219, sm_m220, sm_m221, sm_m222, sm_m223, sm_m224, sm_m225, sm_m226, sm_m227, sm_m228, sm_m229, sm_m230, sm_m231, sm_m232, sm_m233, sm_m234, sm_m235, sm_m236, sm_m237, sm_m238, sm_m239, sm_m240, sm_m241, sm_m242, sm_m243, sm_m244, sm_m245, sm_m246, sm_m247, sm_m248, sm_m249, sm_m250], sm_Pq q := List.forall_mem_cons.mpr ⟨sm_q0, List.forall_mem_cons.mpr ⟨sm_q1, List.forall_mem_cons.mpr ⟨sm_q2, List.forall_mem_cons.mpr ⟨sm_q3, List.forall_mem_cons.mpr ⟨sm_q4, List.forall_mem_cons.mpr ⟨sm_q5, List.forall_mem_cons.mpr ⟨sm_q6, List.forall_mem_cons.mpr ⟨sm_q7, List.forall_mem_cons.mpr ⟨sm_q8, List.forall_mem_cons.mpr ⟨sm_q9, List.forall_mem_cons.mpr ⟨sm_q10, List.forall_mem_cons.mpr ⟨sm_q11, List.forall_mem_cons.mpr ⟨sm_q12, List.forall_mem_cons.mpr ⟨sm_q13, List.forall_mem_cons.mpr ⟨sm_q14, List.forall_mem_cons.mpr ⟨sm_q15, List.forall_mem_cons.mpr ⟨sm_q16, List.forall_mem_cons.mpr ⟨sm_q17, List.forall_mem_cons.mpr ⟨sm_q18, List.forall_mem_cons.mpr ⟨sm_q19, List.forall_mem_cons.mpr ⟨sm_q20, List.forall_mem_cons.mpr ⟨sm_q21, List.forall_mem_cons.mpr ⟨sm_q22, List.forall_mem_cons.mpr ⟨sm_q23, List.forall_mem_cons.mpr ⟨sm_q24, List.forall_mem_cons.mpr ⟨sm_q25, List.forall_mem_cons.mpr ⟨sm_q26, List.forall_mem_cons.mpr ⟨sm_q27, List.forall_mem_cons.mpr ⟨sm_q28, List.forall_mem_cons.mpr ⟨sm_q29, List.forall_mem_cons.mpr ⟨sm_q30, List.forall_mem_cons.mpr ⟨sm_q31, List.forall_mem_cons.mpr ⟨sm_q32, List.forall_mem_cons.mpr ⟨sm_q33, List.forall_mem_cons.mpr ⟨sm_q34, List.forall_mem_cons.mpr ⟨sm_q35, List.forall_mem_cons.mpr ⟨sm_q36, List.forall_mem_cons.mpr ⟨sm_q37, List.forall_mem_cons.mpr ⟨sm_q38, List.forall_mem_cons.mpr ⟨sm_q39, List.forall_mem_cons.mpr ⟨sm_q40, List.forall_mem_cons.mpr ⟨sm_q41, List.forall_mem_cons.mpr ⟨sm_q42, List.forall_mem_cons.mpr ⟨sm_q43, List.forall_mem_cons.mpr ⟨sm_q44, List.forall_mem_cons.mpr ⟨sm_q45, List.forall_mem_cons.mpr ⟨sm_q46, List.forall_mem_cons.mpr ⟨sm_q47, List.forall_mem_cons.mpr ⟨sm_q48, List.forall_mem_cons.mpr ⟨sm_q49, List.forall_mem_cons.mpr ⟨sm_q50, List.forall_mem_cons.mpr ⟨sm_q51, List.forall_mem_cons.mpr ⟨sm_q52, List.forall_mem_cons.mpr ⟨sm_q53, List.forall_mem_cons.mpr ⟨sm_q54, List.forall_mem_cons.mpr ⟨sm_q55, List.forall_mem_cons.mpr ⟨sm_q56, List.forall_mem_cons.mpr ⟨sm_q57, List.forall_mem_cons.mpr ⟨sm_q58, List.forall_mem_cons.mpr ⟨sm_q59, List.forall_mem_cons.mpr ⟨sm_q60, List.forall_mem_cons.mpr ⟨sm_q61, List.forall_mem_cons.mpr ⟨sm_q62, List.forall_mem_cons.mpr ⟨sm_q63, List.forall_mem_cons.mpr ⟨sm_q64, List.forall_mem_cons.mpr ⟨sm_q65, List.forall_mem_cons.mpr ⟨sm_q66, List.forall_mem_cons.mpr ⟨sm_q67, List.forall_mem_cons.mpr ⟨sm_q68, List.forall_mem_cons.mpr ⟨sm_q69, List.forall_mem_cons.mpr ⟨sm_q70, List.forall_mem_cons.mpr ⟨sm_q71, List.forall_mem_cons.mpr ⟨sm_q72, List.forall_mem_cons.mpr ⟨sm_q73, List.forall_mem_cons.mpr ⟨sm_q74, List.forall_mem_cons.mpr ⟨sm_q75, List.forall_mem_cons.mpr ⟨sm_q76, List.forall_mem_cons.mpr ⟨sm_q77, List.forall_mem_cons.mpr ⟨sm_q78, List.forall_mem_cons.mpr ⟨sm_q79, List.forall_mem_cons.mpr ⟨sm_q80, List.forall_mem_cons.mpr ⟨sm_q81, List.forall_mem_cons.mpr ⟨sm_q82, List.forall_mem_cons.mpr ⟨sm_q83, List.forall_mem_cons.mpr ⟨sm_q84, List.forall_mem_cons.mpr ⟨sm_q85, List.forall_mem_cons.mpr ⟨sm_q86, List.forall_mem_cons.mpr ⟨sm_q87, List.forall_mem_cons.mpr ⟨sm_q88, List.forall_mem_cons.mpr ⟨sm_q89, List.forall_mem_cons.mpr ⟨sm_q90, List.forall_mem_cons.mpr ⟨sm_q91, List.forall_mem_cons.mpr ⟨sm_q92, List.forall_mem_cons.mpr ⟨sm_q93, List.forall_mem_cons.mpr ⟨sm_q94, List.forall_mem_cons.mpr ⟨sm_q95, List.forall_mem_cons.mpr ⟨sm_q96, List.forall_mem_cons.mpr ⟨sm_q97, List.forall_mem_cons.mpr ⟨sm_q98, List.forall_mem_cons.mpr ⟨sm_q99, List.forall_mem_cons.mpr ⟨sm_q100, List.forall_mem_cons.mpr ⟨sm_q101, List.forall_mem_cons.mpr ⟨sm_q102, List.forall_mem_cons.mpr ⟨sm_q103, List.forall_mem_cons.mpr ⟨sm_q104, List.forall_mem_cons.mpr ⟨sm_q105, List.forall_mem_cons.mpr ⟨sm_q106, List.forall_mem_cons.mpr ⟨sm_q107, List.forall_mem_cons.mpr ⟨sm_q108, List.forall_mem_cons.mpr ⟨sm_q109, List.forall_mem_cons.mpr ⟨sm_q110, List.forall_mem_cons.mpr ⟨sm_q111, List.forall_mem_cons.mpr ⟨sm_q112, List.forall_mem_cons.mpr ⟨sm_q113, List.forall_mem_cons.mpr ⟨sm_q114, List.forall_mem_cons.mpr ⟨sm_q115, List.forall_mem_cons.mpr ⟨sm_q116, List.forall_mem_cons.mpr ⟨sm_q117, List.forall_mem_cons.mpr ⟨sm_q118, List.forall_mem_cons.mpr ⟨sm_q119, List.forall_mem_cons.mpr ⟨sm_q120, List.forall_mem_cons.mpr ⟨sm_q121, List.forall_mem_cons.mpr ⟨sm_q122, List.forall_mem_cons.mpr ⟨sm_q123, List.forall_mem_cons.mpr ⟨sm_q124, List.forall_mem_cons.mpr ⟨sm_q125, List.forall_mem_cons.mpr ⟨sm_q126, List.forall_mem_cons.mpr ⟨sm_q127, List.forall_mem_cons.mpr ⟨sm_q128, List.forall_mem_cons.mpr ⟨sm_q129, List.forall_mem_cons.mpr ⟨sm_q130, List.forall_mem_cons.mpr ⟨sm_q131, List.forall_mem_cons.mpr ⟨sm_q132, List.forall_mem_cons.mpr ⟨sm_q133, List.forall_mem_cons.mpr ⟨sm_q134, List.forall_mem_cons.mpr ⟨sm_q135, List.forall_mem_cons.mpr ⟨sm_q136, List.forall_mem_cons.mpr ⟨sm_q137, List.forall_mem_cons.mpr ⟨sm_q138, List.forall_mem_cons.mpr ⟨sm_q139, List.forall_mem_cons.mpr ⟨sm_q140, List.forall_mem_cons.mpr ⟨sm_q141, List.forall_mem_cons.mpr ⟨sm_q142, List.forall_mem_cons.mpr ⟨sm_q143, List.forall_mem_cons.mpr ⟨sm_q144, List.forall_mem_cons.mpr ⟨sm_q145, List.forall_mem_cons.mpr ⟨sm_q146, List.forall_mem_cons.mpr ⟨sm_q147, List.forall_mem_cons.mpr ⟨sm_q148, List.forall_mem_cons.mpr ⟨sm_q149, List.forall_mem_cons.mpr ⟨sm_q150, List.forall_mem_cons.mpr ⟨sm_q151, List.forall_mem_cons.mpr ⟨sm_q152, List.forall_mem_cons.mpr ⟨sm_q153, List.forall_mem_cons.mpr ⟨sm_q154, List.forall_mem_cons.mpr ⟨sm_q155, List.forall_mem_cons.mpr ⟨sm_q156, List.forall_mem_cons.mpr ⟨sm_q157, List.forall_mem_cons.mpr ⟨sm_q158, List.forall_mem_cons.mpr ⟨sm_q159, List.forall_mem_cons.mpr ⟨sm_q160, List.forall_mem_cons.mpr ⟨sm_q161, List.forall_mem_cons.mpr ⟨sm_q162, List.forall_mem_cons.mpr ⟨sm_q163, List.forall_mem_cons.mpr ⟨sm_q164, List.forall_mem_cons.mpr ⟨sm_q165, List.forall_mem_cons.mpr ⟨sm_q166, List.forall_mem_cons.mpr ⟨sm_q167, List.forall_mem_cons.mpr ⟨sm_q168, List.forall_mem_cons.mpr ⟨sm_q169, List.forall_mem_cons.mpr ⟨sm_q170, List.forall_mem_cons.mpr ⟨sm_q171, List.forall_mem_cons.mpr ⟨sm_q172, List.forall_mem_cons.mpr ⟨sm_q173, List.forall_mem_cons.mpr ⟨sm_q174, List.forall_mem_cons.mpr ⟨sm_q175, List.forall_mem_cons.mpr ⟨sm_q176, List.forall_mem_cons.mpr ⟨sm_q177, List.forall_mem_cons.mpr ⟨sm_q178, List.forall_mem_cons.mpr ⟨sm_q179, List.forall_mem_cons.mpr ⟨sm_q180, List.forall_mem_cons.mpr ⟨sm_q181, List.forall_mem_cons.mpr ⟨sm_q182, List.forall_mem_cons.mpr ⟨sm_q183, List.forall_mem_cons.mpr ⟨sm_q184, List.forall_mem_cons.mpr ⟨sm_q185, List.forall_mem_cons.mpr ⟨sm_q186, List.forall_mem_cons.mpr ⟨sm_q187, List.forall_mem_cons.mpr ⟨sm_q188, List.forall_mem_cons.mpr ⟨sm_q189, List.forall_mem_cons.mpr ⟨sm_q190, List.forall_mem_cons.mpr ⟨sm_q191, List.forall_mem_cons.mpr ⟨sm_q192, List.forall_mem_cons.mpr ⟨sm_q193, List.forall_mem_cons.mpr ⟨sm_q194, List.forall_mem_cons.mpr ⟨sm_q195, List.forall_mem_cons.mpr ⟨sm_q196, List.forall_mem_cons.mpr ⟨sm_q197, List.forall_mem_cons.mpr ⟨sm_q198, List.forall_mem_cons.mpr ⟨sm_q199, List.forall_mem_cons.mpr ⟨sm_q200, List.forall_mem_cons.mpr ⟨sm_q201, List.forall_mem_cons.mpr ⟨sm_q202, List.forall_mem_cons.mpr ⟨sm_q203, List.forall_mem_cons.mpr ⟨sm_q204, List.forall_mem_cons.mpr ⟨sm_q205, List.forall_mem_cons.mpr ⟨sm_q206, List.forall_mem_cons.mpr ⟨sm_q207, List.forall_mem_cons.mpr ⟨sm_q208, List.forall_mem_cons.mpr ⟨sm_q209, List.forall_mem_cons.mpr ⟨sm_q210, List.forall_mem_cons.mpr ⟨sm_q211, List.forall_mem_cons.mpr ⟨sm_q212, List.forall_mem_cons.mpr ⟨sm_q213, List.forall_mem_cons.mpr ⟨sm_q214, List.forall_mem_cons.mpr ⟨sm_q215, List.forall_mem_cons.mpr ⟨sm_q216, List.forall_mem_cons.mpr ⟨sm_q217, List.forall_mem_cons.mpr ⟨sm_q218, List.forall_mem_cons.mpr ⟨sm_q219, List.forall_mem_cons.mpr ⟨sm_q220, List.forall_mem_cons.mpr ⟨sm_q221, List.forall_mem_cons.mpr ⟨sm_q222, List.forall_mem_cons.mpr ⟨sm_q223, List.forall_mem_cons.mpr ⟨sm_q224, List.forall_mem_cons.mpr ⟨sm_q225, List.forall_mem_cons.mpr ⟨sm_q226, List.forall_mem_cons.mpr ⟨sm_q227, List.forall_mem_cons.mpr ⟨sm_q228, List.forall_mem_cons.mpr ⟨sm_q229, List.forall_mem_cons.mpr ⟨sm_q230, List.forall_mem_cons.mpr ⟨sm_q231, List.forall_mem_cons.mpr ⟨sm_q232, List.forall_mem_cons.mpr ⟨sm_q233, List.forall_mem_cons.mpr ⟨sm_q234, List.forall_mem_cons.mpr ⟨sm_q235, List.forall_mem_cons.mpr ⟨sm_q236, List.forall_mem_cons.mpr ⟨sm_q237, List.forall_mem_cons.mpr ⟨sm_q238, List.forall_mem_cons.mpr ⟨sm_q239, List.forall_mem_cons.mpr ⟨sm_q240, List.forall_mem_cons.mpr ⟨sm_q241, List.forall_mem_cons.mpr ⟨sm_q242, List.forall_mem_cons.mpr ⟨sm_q243, List.forall_mem_cons.mpr ⟨sm_q244, List.forall_mem_cons.mpr ⟨sm_q245, List.forall_mem_cons.mpr ⟨sm_q246, List.forall_mem_cons.mpr ⟨sm_q247, List.forall_mem_cons.mpr ⟨sm_q248, List.forall_mem_cons.mpr ⟨sm_q249, List.forall_mem_cons.mpr ⟨sm_q250, fun _ h => absurd h List.not_mem_nil⟩⟩⟩⟩⟩⟩⟩⟩⟩⟩⟩⟩⟩⟩⟩⟩⟩⟩⟩⟩⟩⟩⟩⟩⟩⟩⟩⟩⟩⟩⟩⟩⟩⟩⟩⟩⟩⟩⟩⟩⟩⟩⟩⟩⟩⟩⟩⟩⟩⟩⟩⟩⟩⟩⟩⟩⟩⟩⟩⟩⟩⟩⟩⟩⟩⟩⟩⟩⟩⟩⟩⟩⟩⟩⟩⟩⟩⟩⟩⟩⟩⟩⟩⟩⟩⟩⟩⟩⟩⟩⟩⟩⟩⟩⟩⟩⟩⟩⟩⟩⟩⟩⟩⟩⟩⟩⟩⟩⟩⟩⟩⟩⟩⟩⟩⟩⟩⟩⟩⟩⟩⟩⟩⟩⟩⟩⟩⟩⟩⟩⟩⟩⟩⟩⟩⟩⟩⟩⟩⟩⟩⟩⟩⟩⟩⟩⟩⟩⟩⟩⟩⟩⟩⟩⟩⟩⟩⟩⟩⟩⟩⟩⟩⟩⟩⟩⟩⟩⟩⟩⟩⟩⟩⟩⟩⟩⟩⟩⟩⟩⟩⟩⟩⟩⟩⟩⟩⟩⟩⟩⟩⟩⟩⟩⟩⟩⟩⟩⟩⟩⟩⟩⟩⟩⟩⟩⟩⟩⟩⟩⟩⟩⟩⟩⟩⟩⟩⟩⟩⟩⟩⟩⟩⟩⟩⟩⟩⟩⟩⟩⟩⟩⟩⟩⟩⟩⟩⟩⟩⟩⟩⟩⟩⟩⟩⟩⟩⟩⟩⟩⟩
def sm_Fq (q : Nat × Nat × Nat × Nat) : Prop := sm_w (.fieldLink (sm_c q.1) q.2.1 (sm_c q.2.2.1) (sm_T q.2.2.1 q.2.2.2).2.1 (sm_T q.2.2.1 q.2.2.2).2.2.1) ∧ q.2.2.2 < sm_N q.2.2.1 ∧ q.2.2.1 < 13 ∧ (sm_T q.2.2.1 q.2.2.2).1 = sm_c q.2.2.1
theorem sm_f0 : sm_Fq (0, 9, 0, 0) := ⟨⟨sm_in1 (List.mem_of_getElem? (i := 199) rfl), rfl⟩, by decide, by decide, rfl⟩
theorem sm_f1 : sm_Fq (0, 13, 0, 1) := ⟨⟨sm_in1 (List.mem_of_getElem? (i := 201) rfl), rfl⟩, by decide, by decide, rfl⟩
theorem sm_f2 : sm_Fq (0, 16, 0, 2) := ⟨⟨sm_in1 (List.mem_of_getElem? (i := 203) rfl), rfl⟩, by decide, by decide, rfl⟩
theorem sm_f3 : sm_Fq (0, 19, 0, 3) := ⟨⟨sm_in1 (List.mem_of_getElem? (i := 205) rfl), rfl⟩, by decide, by decide, rfl⟩
theorem sm_f4 : sm_Fq (0, 22, 0, 4) := ⟨⟨sm_in1 (List.mem_of_getElem? (i := 207) rfl), rfl⟩, by decide, by decide, rfl⟩
theorem sm_f5 : sm_Fq (0, 29, 0, 5) := ⟨⟨sm_in1 (List.mem_of_getElem? (i := 209) rfl), rfl⟩, by decide, by decide, rfl⟩
theorem sm_f6 : sm_Fq (1, 9, 1, 0) := ⟨⟨sm_in1 (List.mem_of_getElem? (i := 88) rfl), rfl⟩, by decide, by decide, rfl⟩
theorem sm_f7 : sm_Fq (1, 15, 1, 1) := ⟨⟨sm_in1 (List.mem_of_getElem? (i := 91) rfl), rfl⟩, by decide, by decide, rfl⟩
theorem sm_f8 : sm_Fq (1, 18, 1, 2) := ⟨⟨sm_in1 (List.mem_of_getElem? (i := 93) rfl), rfl⟩, by decide, by decide, rfl⟩
theorem sm_f9 : sm_Fq (1, 21, 1, 3) := ⟨⟨sm_in1 (List.mem_of_getElem? (i := 95) rfl), rfl⟩, by decide, by decide, rfl⟩
theorem sm_f10 : sm_Fq (1, 24, 1, 4) := ⟨⟨sm_in1 (List.mem_of_getElem? (i := 100) rfl), rfl⟩, by decide, by decide, rfl⟩
theorem sm_f11 : sm_Fq (1, 27, 1, 8) := ⟨⟨sm_in1 (List.mem_of_getElem? (i := 115) rfl), rfl⟩, by decide, by decide, rfl⟩
theorem sm_f12 : sm_Fq (1, 31, 1, 5) := ⟨⟨sm_in1 (List.mem_of_getElem? (i := 104) rfl), rfl⟩, by decide, by decide, rfl⟩
theorem sm_f13 : sm_Fq (1, 35, 1, 6) := ⟨⟨sm_in1 (List.mem_of_getElem? (i := 106) rfl), rfl⟩, by decide, by decide, rfl⟩
theorem sm_f14 : sm_Fq (1, 38, 1, 7) := ⟨⟨sm_in1 (List.mem_of_getElem? (i := 112) rfl), rfl⟩, by decide, by decide, rfl⟩
theorem sm_f15 : sm_Fq (1, 72, 8, 2) := ⟨⟨sm_in1 (List.mem_of_getElem? (i := 154) rfl), rfl⟩, by decide, by decide, rfl⟩
theorem sm_f16 : sm_Fq (1, 77, 8, 0) := ⟨⟨sm_in1 (List.mem_of_getElem? (i := 144) rfl), rfl⟩, by decide, by decide, rfl⟩
theorem sm_f17 : sm_Fq (1, 88, 8, 1) := ⟨⟨sm_in1 (List.mem_of_getElem? (i := 148) rfl), rfl⟩, by decide, by decide, rfl⟩
theorem sm_f18 : sm_Fq (1, 91, 8, 3) := ⟨⟨sm_in1 (List.mem_of_getElem? (i := 158) rfl), rfl⟩, by decide, by decide, rfl⟩
theorem sm_f19 : sm_Fq (2, 12, 2, 0) := ⟨⟨sm_in1 (List.mem_of_getElem? (i := 176) rfl), rfl⟩, by decide, by decide, rfl⟩
theorem sm_f20 : sm_Fq (2, 18, 2, 1) := ⟨⟨sm_in1 (List.mem_of_getElem? (i := 177) rfl), rfl⟩, by decide, by decide, rfl⟩
theorem sm_f21 : sm_Fq (2, 22, 1, 6) := ⟨⟨sm_in1 (List.mem_of_getElem? (i := 105) rfl), rfl⟩, by decide, by decide, rfl⟩
theorem sm_f22 : sm_Fq (2, 28, 2, 2) := ⟨⟨sm_in1 (List.mem_of_getElem? (i := 178) rfl), rfl⟩, by decide, by decide, rfl⟩
theorem sm_f23 : sm_Fq (2, 29, 1, 7) := ⟨⟨sm_in1 (List.mem_of_getElem? (i := 110) rfl), rfl⟩, by decide, by decide, rfl⟩
theorem sm_f24 : sm_Fq (2, 32, 2, 3) := ⟨⟨sm_in1 (List.mem_of_getElem? (i := 179) rfl), rfl⟩, by decide, by decide, rfl⟩
theorem sm_f25 : sm_Fq (2, 43, 2, 4) := ⟨⟨sm_in1 (List.mem_of_getElem? (i := 180) rfl), rfl⟩, by decide, by decide, rfl⟩
theorem sm_f26 : sm_Fq (3, 9, 3, 0) := ⟨⟨sm_in1 (List.mem_of_getElem? (i := 37) rfl), rfl⟩, by decide, by decide, rfl⟩
theorem sm_f27 : sm_Fq (3, 13, 3, 1) := ⟨⟨sm_in1 (List.mem_of_getElem? (i := 38) rfl), rfl⟩, by decide, by decide, rfl⟩
theorem sm_f28 : sm_Fq (3, 16, 3, 2) := ⟨⟨sm_in1 (List.mem_of_getElem? (i := 39) rfl), rfl⟩, by decide, by decide, rfl⟩
theorem sm_f29 : sm_Fq (3, 19, 3, 3) := ⟨⟨sm_in1 (List.mem_of_getElem? (i := 40) rfl), rfl⟩, by decide, by decide, rfl⟩
theorem sm_f30 : sm_Fq (4, 9, 4, 0) := ⟨⟨sm_in1 (List.mem_of_getElem? (i := 57) rfl), rfl⟩, by decide, by decide, rfl⟩
theorem sm_f31 : sm_Fq (4, 15, 4, 3) := ⟨⟨sm_in1 (List.mem_of_getElem? (i := 63) rfl), rfl⟩, by decide, by decide, rfl⟩
theorem sm_f32 : sm_Fq (4, 18, 4, 2) := ⟨⟨sm_in1 (List.mem_of_getElem? (i := 61) rfl), rfl⟩, by decide, by decide, rfl⟩
theorem sm_f33 : sm_Fq (4, 22, 4, 4) := ⟨⟨sm_in1 (List.mem_of_getElem? (i := 64) rfl), rfl⟩, by decide, by decide, rfl⟩
theorem sm_f34 : sm_Fq (4, 25, 4, 5) := ⟨⟨sm_in1 (List.mem_of_getElem? (i := 65) rfl), rfl⟩, by decide, by decide, rfl⟩
theorem sm_f35 : sm_Fq (4, 28, 4, 1) := ⟨⟨sm_in1 (List.mem_of_getElem? (i := 59) rfl), rfl⟩, by decide, by decide, rfl⟩
theorem sm_f36 : sm_Fq (4, 31, 4, 6) := ⟨⟨sm_in1 (List.mem_of_getElem? (i := 66) rfl), rfl⟩, by decide, by decide, rfl⟩
theorem sm_f37 : sm_Fq (5, 9, 5, 1) := ⟨⟨sm_in2 (List.mem_of_getElem? (i := 41) rfl), rfl⟩, by decide, by decide, rfl⟩
theorem sm_f38 : sm_Fq (5, 15, 5, 2) := ⟨⟨sm_in2 (List.mem_of_getElem? (i := 42) rfl), rfl⟩, by decide, by decide, rfl⟩
theorem sm_f39 : sm_Fq (5, 18, 5, 0) := ⟨⟨sm_in2 (List.mem_of_getElem? (i := 40) rfl), rfl⟩, by decide, by decide, rfl⟩
theorem sm_f40 : sm_Fq (5, 22, 1, 7) := ⟨⟨sm_in1 (List.mem_of_getElem? (i := 109) rfl), rfl⟩, by decide, by decide, rfl⟩
theorem sm_f41 : sm_Fq (5, 28, 8, 2) := ⟨⟨sm_in1 (List.mem_of_getElem? (i := 150) rfl), rfl⟩, by decide, by decide, rfl⟩
theorem sm_f42 : sm_Fq (5, 43, 1, 3) := ⟨⟨sm_in1 (List.mem_of_getElem? (i := 96) rfl), rfl⟩, by decide, by decide, rfl⟩
theorem sm_f43 : sm_Fq (5, 46, 1, 4) := ⟨⟨sm_in1 (List.mem_of_getElem? (i := 102) rfl), rfl⟩, by decide, by decide, rfl⟩
theorem sm_f44 : sm_Fq (5, 59, 1, 6) := ⟨⟨sm_in1 (List.mem_of_getElem? (i := 108) rfl), rfl⟩, by decide, by decide, rfl⟩
theorem sm_f45 : sm_Fq (6, 11, 6, 0) := ⟨⟨sm_in2 (List.mem_of_getElem? (i := 79) rfl), rfl⟩, by decide, by decide, rfl⟩
theorem sm_f46 : sm_Fq (6, 15, 6, 1) := ⟨⟨sm_in2 (List.mem_of_getElem? (i := 81) rfl), rfl⟩, by decide, by decide, rfl⟩
theorem sm_f47 : sm_Fq (6, 19, 6, 2) := ⟨⟨sm_in2 (List.mem_of_getElem? (i := 83) rfl), rfl⟩, by decide, by decide, rfl⟩
theorem sm_f48 : sm_Fq (6, 26, 6, 3) := ⟨⟨sm_in2 (List.mem_of_getElem? (i := 86) rfl), rfl⟩, by decide, by decide, rfl⟩
theorem sm_f49 : sm_Fq (7, 11, 7, 0) := ⟨⟨sm_in1 (List.mem_of_getElem? (i := 233) rfl), rfl⟩, by decide, by decide, rfl⟩
theorem sm_f50 : sm_Fq (7, 17, 7, 3) := ⟨⟨sm_in1 (List.mem_of_getElem? (i := 238) rfl), rfl⟩, by decide, by decide, rfl⟩
theorem sm_f51 : sm_Fq (7, 21, 7, 4) := ⟨⟨sm_in1 (List.mem_of_getElem? (i := 239) rfl), rfl⟩, by decide, by decide, rfl⟩
theorem sm_f52 : sm_Fq (7, 24, 7, 2) := ⟨⟨sm_in1 (List.mem_of_getElem? (i := 237) rfl), rfl⟩, by decide, by decide, rfl⟩
theorem sm_f53 : sm_Fq (7, 29, 7, 1) := ⟨⟨sm_in1 (List.mem_of_getElem? (i := 235) rfl), rfl⟩, by decide, by decide, rfl⟩
theorem sm_f54 : sm_Fq (7, 41, 1, 7) := ⟨⟨sm_in1 (List.mem_of_getElem? (i := 113) rfl), rfl⟩, by decide, by decide, rfl⟩
theorem sm_f55 : sm_Fq (7, 61, 8, 1) := ⟨⟨sm_in1 (List.mem_of_getElem? (i := 147) rfl), rfl⟩, by decide, by decide, rfl⟩
theorem sm_f56 : sm_Fq (7, 64, 1, 3) := ⟨⟨sm_in1 (List.mem_of_getElem? (i := 98) rfl), rfl⟩, by decide, by decide, rfl⟩
theorem sm_f57 : sm_Fq (7, 67, 8, 2) := ⟨⟨sm_in1 (List.mem_of_getElem? (i := 152) rfl), rfl⟩, by decide, by decide, rfl⟩
theorem sm_f58 : sm_Fq (7, 70, 8, 3) := ⟨⟨sm_in1 (List.mem_of_getElem? (i := 156) rfl), rfl⟩, by decide, by decide, rfl⟩
theorem sm_f59 : sm_Fq (8, 9, 8, 0) := ⟨⟨sm_in1 (List.mem_of_getElem? (i := 142) rfl), rfl⟩, by decide, by decide, rfl⟩
theorem sm_f60 : sm_Fq (8, 15, 8, 1) := ⟨⟨sm_in1 (List.mem_of_getElem? (i := 145) rfl), rfl⟩, by decide, by decide, rfl⟩
theorem sm_f61 : sm_Fq (8, 18, 8, 2) := ⟨⟨sm_in1 (List.mem_of_getElem? (i := 149) rfl), rfl⟩, by decide, by decide, rfl⟩
theorem sm_f62 : sm_Fq (8, 37, 8, 3) := ⟨⟨sm_in1 (List.mem_of_getElem? (i := 155) rfl), rfl⟩, by decide, by decide, rfl⟩
theorem sm_f63 : sm_Fq (9, 11, 9, 0) := ⟨⟨sm_in2 (List.mem_of_getElem? (i := 56) rfl), rfl⟩, by decide, by decide, rfl⟩
theorem sm_f64 : sm_Fq (9, 15, 9, 3) := ⟨⟨sm_in2 (List.mem_of_getElem? (i := 62) rfl), rfl⟩, by decide, by decide, rfl⟩
theorem sm_f65 : sm_Fq (9, 18, 9, 1) := ⟨⟨sm_in2 (List.mem_of_getElem? (i := 58) rfl), rfl⟩, by decide, by decide, rfl⟩
theorem sm_f66 : sm_Fq (9, 33, 9, 2) := ⟨⟨sm_in2 (List.mem_of_getElem? (i := 60) rfl), rfl⟩, by decide, by decide, rfl⟩
theorem sm_f67 : sm_Fq (10, 9, 10, 0) := ⟨⟨sm_in2 (List.mem_of_getElem? (i := 17) rfl), rfl⟩, by decide, by decide, rfl⟩
theorem sm_f68 : sm_Fq (10, 15, 10, 2) := ⟨⟨sm_in2 (List.mem_of_getElem? (i := 20) rfl), rfl⟩, by decide, by decide, rfl⟩
theorem sm_f69 : sm_Fq (10, 18, 10, 3) := ⟨⟨sm_in2 (List.mem_of_getElem? (i := 21) rfl), rfl⟩, by decide, by decide, rfl⟩
theorem sm_f70 : sm_Fq (10, 21, 10, 1) := ⟨⟨sm_in2 (List.mem_of_getElem? (i := 19) rfl), rfl⟩, by decide, by decide, rfl⟩
theorem sm_f71 : sm_Fq (10, 25, 10, 4) := ⟨⟨sm_in2 (List.mem_of_getElem? (i := 22) rfl), rfl⟩, by decide, by decide, rfl⟩
theorem sm_f72 : sm_Fq (10, 29, 1, 7) := ⟨⟨sm_in1 (List.mem_of_getElem? (i := 111) rfl), rfl⟩, by decide, by decide, rfl⟩
theorem sm_f73 : sm_Fq (10, 34, 8, 2) := ⟨⟨sm_in1 (List.mem_of_getElem? (i := 151) rfl), rfl⟩, by decide, by decide, rfl⟩
theorem sm_f74 : sm_Fq (10, 43, 1, 4) := ⟨⟨sm_in1 (List.mem_of_getElem? (i := 101) rfl), rfl⟩, by decide, by decide, rfl⟩
theorem sm_f75 : sm_Fq (10, 46, 1, 0) := ⟨⟨sm_in1 (List.mem_of_getElem? (i := 89) rfl), rfl⟩, by decide, by decide, rfl⟩
theorem sm_f76 : sm_Fq (10, 49, 1, 3) := ⟨⟨sm_in1 (List.mem_of_getElem? (i := 97) rfl), rfl⟩, by decide, by decide, rfl⟩
theorem sm_f77 : sm_Fq (11, 10, 11, 0) := ⟨⟨sm_in2 (List.mem_of_getElem? (i := 97) rfl), rfl⟩, by decide, by decide, rfl⟩
theorem sm_f78 : sm_Fq (11, 19, 11, 1) := ⟨⟨sm_in2 (List.mem_of_getElem? (i := 98) rfl), rfl⟩, by decide, by decide, rfl⟩
theorem sm_f79 : sm_Fq (11, 28, 11, 2) := ⟨⟨sm_in2 (List.mem_of_getElem? (i := 99) rfl), rfl⟩, by decide, by decide, rfl⟩
theorem sm_f80 : sm_Fq (11, 35, 11, 3) := ⟨⟨sm_in2 (List.mem_of_getElem? (i := 100) rfl), rfl⟩, by decide, by decide, rfl⟩
theorem sm_f81 : sm_Fq (11, 39, 11, 4) := ⟨⟨sm_in2 (List.mem_of_getElem? (i := 101) rfl), rfl⟩, by decide, by decide, rfl⟩
theorem sm_f82 : sm_Fq (11, 45, 11, 5) := ⟨⟨sm_in2 (List.mem_of_getElem? (i := 102) rfl), rfl⟩, by decide, by decide, rfl⟩
theorem sm_f83 : sm_Fq (11, 52, 11, 6) := ⟨⟨sm_in2 (List.mem_of_getElem? (i := 103) rfl), rfl⟩, by decide, by decide, rfl⟩
theorem sm_f84 : sm_Fq (11, 56, 11, 7) := ⟨⟨sm_in2 (List.mem_of_getElem? (i := 104) rfl), rfl⟩, by decide, by decide, rfl⟩
theorem sm_f85 : sm_Fq (11, 65, 11, 8) := ⟨⟨sm_in2 (List.mem_of_getElem? (i := 105) rfl), rfl⟩, by decide, by decide, rfl⟩
theorem sm_f86 : sm_Fq (11, 72, 11, 9) := ⟨⟨sm_in2 (List.mem_of_getElem? (i := 106) rfl), rfl⟩, by decide, by decide, rfl⟩
theorem sm_f87 : sm_Fq (11, 79, 11, 10) := ⟨⟨sm_in2 (List.mem_of_getElem? (i := 107) rfl), rfl⟩, by decide, by decide, rfl⟩
theorem sm_f88 : sm_Fq (11, 86, 11, 11) := ⟨⟨sm_in2 (List.mem_of_getElem? (i := 108) rfl), rfl⟩, by decide, by decide, rfl⟩
theorem sm_f89 : sm_Fq (11, 92, 11, 12) := ⟨⟨sm_in2 (List.mem_of_getElem? (i := 109) rfl), rfl⟩, by decide, by decide, rfl⟩
theorem sm_f90 : sm_Fq (11, 101, 1, 6) := ⟨⟨sm_in1 (List.mem_of_getElem? (i := 107) rfl), rfl⟩, by decide, by decide, rfl⟩
theorem sm_f91 : sm_Fq (11, 109, 8, 0) := ⟨⟨sm_in1 (List.mem_of_getElem? (i := 143) rfl), rfl⟩, by decide, by decide, rfl⟩
theorem sm_f92 : sm_Fq (11, 112, 8, 1) := ⟨⟨sm_in1 (List.mem_of_getElem? (i := 146) rfl), rfl⟩, by decide, by decide, rfl⟩
theorem sm_f93 : sm_Fq (11, 119, 1, 7) := ⟨⟨sm_in1 (List.mem_of_getElem? (i := 114) rfl), rfl⟩, by decide, by decide, rfl⟩
theorem sm_f94 : sm_Fq (11, 137, 6, 3) := ⟨⟨sm_in2 (List.mem_of_getElem? (i := 85) rfl), rfl⟩, by decide, by decide, rfl⟩
theorem sm_f95 : sm_Fq (11, 166, 1, 3) := ⟨⟨sm_in1 (List.mem_of_getElem? (i := 99) rfl), rfl⟩, by decide, by decide, rfl⟩
theorem sm_f96 : sm_Fq (11, 169, 1, 4) := ⟨⟨sm_in1 (List.mem_of_getElem? (i := 103) rfl), rfl⟩, by decide, by decide, rfl⟩
theorem sm_f97 : sm_Fq (11, 175, 4, 2) := ⟨⟨sm_in1 (List.mem_of_getElem? (i := 62) rfl), rfl⟩, by decide, by decide, rfl⟩
theorem sm_f98 : sm_Fq (11, 180, 4, 0) := ⟨⟨sm_in1 (List.mem_of_getElem? (i := 58) rfl), rfl⟩, by decide, by decide, rfl⟩
theorem sm_f99 : sm_Fq (11, 183, 4, 1) := ⟨⟨sm_in1 (List.mem_of_getElem? (i := 60) rfl), rfl⟩, by decide, by decide, rfl⟩
theorem sm_f100 : sm_Fq (11, 190, 8, 2) := ⟨⟨sm_in1 (List.mem_of_getElem? (i := 153) rfl), rfl⟩, by decide, by decide, rfl⟩
theorem sm_f101 : sm_Fq (11, 193, 8, 3) := ⟨⟨sm_in1 (List.mem_of_getElem? (i := 157) rfl), rfl⟩, by decide, by decide, rfl⟩
theorem sm_f102 : sm_Fq (11, 254, 7, 1) := ⟨⟨sm_in1 (List.mem_of_getElem? (i := 236) rfl), rfl⟩, by decide, by decide, rfl⟩
theorem sm_f103 : sm_Fq (11, 257, 7, 0) := ⟨⟨sm_in1 (List.mem_of_getElem? (i := 234) rfl), rfl⟩, by decide, by decide, rfl⟩
theorem sm_f104 : sm_Fq (11, 269, 10, 0) := ⟨⟨sm_in2 (List.mem_of_getElem? (i := 18) rfl), rfl⟩, by decide, by decide, rfl⟩
theorem sm_f105 : sm_Fq (11, 283, 1, 2) := ⟨⟨sm_in1 (List.mem_of_getElem? (i := 94) rfl), rfl⟩, by decide, by decide, rfl⟩
theorem sm_f106 : sm_Fq (11, 290, 1, 1) := ⟨⟨sm_in1 (List.mem_of_getElem? (i := 92) rfl), rfl⟩, by decide, by decide, rfl⟩
theorem sm_f107 : sm_Fq (11, 325, 2, 4) := ⟨⟨sm_in1 (List.mem_of_getElem? (i := 181) rfl), rfl⟩, by decide, by decide, rfl⟩
theorem sm_f108 : sm_Fq (11, 336, 0, 0) := ⟨⟨sm_in1 (List.mem_of_getElem? (i := 200) rfl), rfl⟩, by decide, by decide, rfl⟩
theorem sm_f109 : sm_Fq (11, 339, 0, 1) := ⟨⟨sm_in1 (List.mem_of_getElem? (i := 202) rfl), rfl⟩, by decide, by decide, rfl⟩
theorem sm_f110 : sm_Fq (11, 342, 0, 2) := ⟨⟨sm_in1 (List.mem_of_getElem? (i := 204) rfl), rfl⟩, by decide, by decide, rfl⟩
theorem sm_f111 : sm_Fq (11, 345, 0, 4) := ⟨⟨sm_in1 (List.mem_of_getElem? (i := 208) rfl), rfl⟩, by decide, by decide, rfl⟩
theorem sm_f112 : sm_Fq (11, 351, 0, 3) := ⟨⟨sm_in1 (List.mem_of_getElem? (i := 206) rfl), rfl⟩, by decide, by decide, rfl⟩
theorem sm_f113 : sm_Fq (11, 354, 0, 5) := ⟨⟨sm_in1 (List.mem_of_getElem? (i := 210) rfl), rfl⟩, by decide, by decide, rfl⟩
theorem sm_f114 : sm_Fq (11, 365, 9, 0) := ⟨⟨sm_in2 (List.mem_of_getElem? (i := 57) rfl), rfl⟩, by decide, by decide, rfl⟩
theorem sm_f115 : sm_Fq (11, 385, 6, 0) := ⟨⟨sm_in2 (List.mem_of_getElem? (i := 80) rfl), rfl⟩, by decide, by decide, rfl⟩
theorem sm_f116 : sm_Fq (11, 396, 6, 2) := ⟨⟨sm_in2 (List.mem_of_getElem? (i := 84) rfl), rfl⟩, by decide, by decide, rfl⟩
theorem sm_f117 : sm_Fq (11, 410, 6, 1) := ⟨⟨sm_in2 (List.mem_of_getElem? (i := 82) rfl), rfl⟩, by decide, by decide, rfl⟩
theorem sm_f118 : sm_Fq (11, 419, 9, 1) := ⟨⟨sm_in2 (List.mem_of_getElem? (i := 59) rfl), rfl⟩, by decide, by decide, rfl⟩
theorem sm_f119 : sm_Fq (11, 422, 9, 2) := ⟨⟨sm_in2 (List.mem_of_getElem? (i := 61) rfl), rfl⟩, by decide, by decide, rfl⟩
theorem sm_f120 : sm_Fq (11, 428, 1, 0) := ⟨⟨sm_in1 (List.mem_of_getElem? (i := 90) rfl), rfl⟩, by decide, by decide, rfl⟩
theorem sm_f121 : sm_Fq (11, 431, 1, 8) := ⟨⟨sm_in1 (List.mem_of_getElem? (i := 116) rfl), rfl⟩, by decide, by decide, rfl⟩
theorem sm_f122 : sm_Fq (12, 9, 12, 0) := ⟨⟨sm_in5 (List.mem_of_getElem? (i := 124) rfl), rfl⟩, by decide, by decide, rfl⟩
theorem sm_f123 : sm_Fq (12, 13, 12, 1) := ⟨⟨sm_in5 (List.mem_of_getElem? (i := 125) rfl), rfl⟩, by decide, by decide, rfl⟩
theorem sm_f124 : sm_Fq (12, 16, 12, 2) := ⟨⟨sm_in5 (List.mem_of_getElem? (i := 126) rfl), rfl⟩, by decide, by decide, rfl⟩
theorem sm_f125 : sm_Fq (12, 19, 12, 3) := ⟨⟨sm_in5 (List.mem_of_getElem? (i := 127) rfl), rfl⟩, by decide, by decide, rfl⟩
theorem sm_f126 : sm_Fq (12, 22, 12, 8) := ⟨⟨sm_in5 (List.mem_of_getElem? (i := 132) rfl), rfl⟩, by decide, by decide, rfl⟩
theorem sm_f127 : sm_Fq (12, 25, 12, 9) := ⟨⟨sm_in5 (List.mem_of_getElem? (i := 133) rfl), rfl⟩, by decide, by decide, rfl⟩
theorem sm_f128 : sm_Fq (12, 28, 12, 10) := ⟨⟨sm_in5 (List.mem_of_getElem? (i := 134) rfl), rfl⟩, by decide, by decide, rfl⟩
theorem sm_f129 : sm_Fq (12, 31, 12, 12) := ⟨⟨sm_in5 (List.mem_of_getElem? (i := 136) rfl), rfl⟩, by decide, by decide, rfl⟩
theorem sm_f130 : sm_Fq (12, 34, 12, 19) := ⟨⟨sm_in5 (List.mem_of_getElem? (i := 143) rfl), rfl⟩, by decide, by decide, rfl⟩
theorem sm_f131 : sm_Fq (12, 37, 12, 20) := ⟨⟨sm_in5 (List.mem_of_getElem? (i := 144) rfl), rfl⟩, by decide, by decide, rfl⟩
theorem sm_f132 : sm_Fq (12, 40, 12, 21) := ⟨⟨sm_in5 (List.mem_of_getElem? (i := 145) rfl), rfl⟩, by decide, by decide, rfl⟩
theorem sm_f133 : sm_Fq (12, 43, 12, 22) := ⟨⟨sm_in5 (List.mem_of_getElem? (i := 146) rfl), rfl⟩, by decide, by decide, rfl⟩
theorem sm_f134 : sm_Fq (12, 46, 12, 25) := ⟨⟨sm_in5 (List.mem_of_getElem? (i := 149) rfl), rfl⟩, by decide, by decide, rfl⟩
theorem sm_f135 : sm_Fq (12, 49, 12, 27) := ⟨⟨sm_in5 (List.mem_of_getElem? (i := 151) rfl), rfl⟩, by decide, by decide, rfl⟩
theorem sm_f136 : sm_Fq (12, 52, 12, 28) := ⟨⟨sm_in5 (List.mem_of_getElem? (i := 152) rfl), rfl⟩, by decide, by decide, rfl⟩
theorem sm_f137 : sm_Fq (12, 55, 12, 29) := ⟨⟨sm_in5 (List.mem_of_getElem? (i := 153) rfl), rfl⟩, by decide, by decide, rfl⟩
theorem sm_f138 : sm_Fq (12, 58, 12, 31) := ⟨⟨sm_in5 (List.mem_of_getElem? (i := 155) rfl), rfl⟩, by decide, by decide, rfl⟩
theorem sm_f139 : sm_Fq (12, 61, 12, 32) := ⟨⟨sm_in5 (List.mem_of_getElem? (i := 156) rfl), rfl⟩, by decide, by decide, rfl⟩
theorem sm_f140 : sm_Fq (12, 64, 12, 36) := ⟨⟨sm_in5 (List.mem_of_getElem? (i := 160) rfl), rfl⟩, by decide, by decide, rfl⟩
theorem sm_f141 : sm_Fq (12, 67, 12, 37) := ⟨⟨sm_in5 (List.mem_of_getElem? (i := 161) rfl), rfl⟩, by decide, by decide, rfl⟩
theorem sm_f142 : sm_Fq (12, 70, 12, 39) := ⟨⟨sm_in5 (List.mem_of_getElem? (i := 163) rfl), rfl⟩, by decide, by decide, rfl⟩
theorem sm_f143 : sm_Fq (12, 73, 12, 40) := ⟨⟨sm_in5 (List.mem_of_getElem? (i := 164) rfl), rfl⟩, by decide, by decide, rfl⟩
theorem sm_f144 : sm_Fq (12, 76, 12, 44) := ⟨⟨sm_in5 (List.mem_of_getElem? (i := 168) rfl), rfl⟩, by decide, by decide, rfl⟩
theorem sm_f145 : sm_Fq (12, 79, 12, 45) := ⟨⟨sm_in5 (List.mem_of_getElem? (i := 169) rfl), rfl⟩, by decide, by decide, rfl⟩
theorem sm_f146 : sm_Fq (12, 82, 12, 46) := ⟨⟨sm_in5 (List.mem_of_getElem? (i := 170) rfl), rfl⟩, by decide, by decide, rfl⟩
theorem sm_f147 : sm_Fq (12, 86, 12, 47) := ⟨⟨sm_in5 (List.mem_of_getElem? (i := 171) rfl), rfl⟩, by decide, by decide, rfl⟩
theorem sm_f148 : sm_Fq (12, 89, 12, 13) := ⟨⟨sm_in5 (List.mem_of_getElem? (i := 137) rfl), rfl⟩, by decide, by decide, rfl⟩
theorem sm_f149 : sm_Fq (12, 93, 12, 5) := ⟨⟨sm_in5 (List.mem_of_getElem? (i := 129) rfl), rfl⟩, by decide, by decide, rfl⟩
theorem sm_f150 : sm_Fq (12, 96, 12, 4) := ⟨⟨sm_in5 (List.mem_of_getElem? (i := 128) rfl), rfl⟩, by decide, by decide, rfl⟩
theorem sm_f151 : sm_Fq (12, 99, 12, 6) := ⟨⟨sm_in5 (List.mem_of_getElem? (i := 130) rfl), rfl⟩, by decide, by decide, rfl⟩
theorem sm_f152 : sm_Fq (12, 106, 12, 7) := ⟨⟨sm_in5 (List.mem_of_getElem? (i := 131) rfl), rfl⟩, by decide, by decide, rfl⟩
theorem sm_f153 : sm_Fq (12, 153, 12, 11) := ⟨⟨sm_in5 (List.mem_of_getElem? (i := 135) rfl), rfl⟩, by decide, by decide, rfl⟩
theorem sm_f154 : sm_Fq (12, 156, 12, 15) := ⟨⟨sm_in5 (List.mem_of_getElem? (i := 139) rfl), rfl⟩, by decide, by decide, rfl⟩
theorem sm_f155 : sm_Fq (12, 159, 12, 16) := ⟨⟨sm_in5 (List.mem_of_getElem? (i := 140) rfl), rfl⟩, by decide, by decide, rfl⟩
theorem sm_f156 : sm_Fq (12, 162, 12, 14) := ⟨⟨sm_in5 (List.mem_of_getElem? (i := 138) rfl), rfl⟩, by decide, by decide, rfl⟩
theorem sm_f157 : sm_Fq (12, 165, 12, 17) := ⟨⟨sm_in5 (List.mem_of_getElem? (i := 141) rfl), rfl⟩, by decide, by decide, rfl⟩
theorem sm_f158 : sm_Fq (12, 190, 12, 18) := ⟨⟨sm_in5 (List.mem_of_getElem? (i := 142) rfl), rfl⟩, by decide, by decide, rfl⟩
theorem sm_f159 : sm_Fq (12, 205, 12, 23) := ⟨⟨sm_in5 (List.mem_of_getElem? (i := 147) rfl), rfl⟩, by decide, by decide, rfl⟩
theorem sm_f160 : sm_Fq (12, 212, 12, 24) := ⟨⟨sm_in5 (List.mem_of_getElem? (i := 148) rfl), rfl⟩, by decide, by decide, rfl⟩
theorem sm_f161 : sm_Fq (12, 224, 12, 26) := ⟨⟨sm_in5 (List.mem_of_getElem? (i := 150) rfl), rfl⟩, by decide, by decide, rfl⟩
theorem sm_f162 : sm_Fq (12, 260, 12, 30) := ⟨⟨sm_in5 (List.mem_of_getElem? (i := 154) rfl), rfl⟩, by decide, by decide, rfl⟩
theorem sm_f163 : sm_Fq (12, 291, 12, 33) := ⟨⟨sm_in5 (List.mem_of_getElem? (i := 157) rfl), rfl⟩, by decide, by decide, rfl⟩
theorem sm_f164 : sm_Fq (12, 295, 12, 34) := ⟨⟨sm_in5 (List.mem_of_getElem? (i := 158) rfl), rfl⟩, by decide, by decide, rfl⟩
theorem sm_f165 : sm_Fq (12, 298, 12, 35) := ⟨⟨sm_in5 (List.mem_of_getElem? (i := 159) rfl), rfl⟩, by decide, by decide, rfl⟩
theorem sm_f166 : sm_Fq (12, 301, 12, 38) := ⟨⟨sm_in5 (List.mem_of_getElem? (i := 162) rfl), rfl⟩, by decide, by decide, rfl⟩
theorem sm_f167 : sm_Fq (12, 304, 12, 41) := ⟨⟨sm_in5 (List.mem_of_getElem? (i := 165) rfl), rfl⟩, by decide, by decide, rfl⟩
theorem sm_f168 : sm_Fq (12, 313, 12, 43) := ⟨⟨sm_in5 (List.mem_of_getElem? (i := 167) rfl), rfl⟩, by decide, by decide, rfl⟩
theorem sm_f169 : sm_Fq (12, 319, 12, 42) := ⟨⟨sm_in5 (List.mem_of_getElem? (i := 166) rfl), rfl⟩, by decide, by decide, rfl⟩
set_option maxRecDepth 100000 in
theorem sm_c_FT : ∀ q ∈ sm_FT, sm_Fq q := List.forall_mem_cons.mpr ⟨sm_f0, List.forall_mem_cons.mpr ⟨sm_f1, List.forall_mem_cons.mpr ⟨sm_f2, List.forall_mem_cons.mpr ⟨sm_f3, List.forall_mem_cons.mpr ⟨sm_f4, List.forall_mem_cons.mpr ⟨sm_f5, List.forall_mem_cons.mpr ⟨sm_f6, List.forall_mem_cons.mpr ⟨sm_f7, List.forall_mem_cons.mpr ⟨sm_f8, List.forall_mem_cons.mpr ⟨sm_f9, List.forall_mem_cons.mpr ⟨sm_f10, List.forall_mem_cons.mpr ⟨sm_f11, List.forall_mem_cons.mpr ⟨sm_f12, List.forall_mem_cons.mpr ⟨sm_f13, List.forall_mem_cons.mpr ⟨sm_f14, List.forall_mem_cons.mpr ⟨sm_f15, List.forall_mem_cons.mpr ⟨sm_f16, List.forall_mem_cons.mpr ⟨sm_f17, List.forall_mem_cons.mpr ⟨sm_f18, List.forall_mem_cons.mpr ⟨sm_f19, List.forall_mem_cons.mpr ⟨sm_f20, List.forall_mem_cons.mpr ⟨sm_f21, List.forall_mem_cons.mpr ⟨sm_f22, List.forall_mem_cons.mpr ⟨sm_f23, List.forall_mem_cons.mpr ⟨sm_f24, List.forall_mem_cons.mpr ⟨sm_f25, List.forall_mem_cons.mpr ⟨sm_f26, List.forall_mem_cons.mpr ⟨sm_f27, List.forall_mem_cons.mpr ⟨sm_f28, List.forall_mem_cons.mpr ⟨sm_f29, List.forall_mem_cons.mpr ⟨sm_f30, List.forall_mem_cons.mpr ⟨sm_f31, List.forall_mem_cons.mpr ⟨sm_f32, List.forall_mem_cons.mpr ⟨sm_f33, List.forall_mem_cons.mpr ⟨sm_f34, List.forall_mem_cons.mpr ⟨sm_f35, List.forall_mem_cons.mpr ⟨sm_f36, List.forall_mem_cons.mpr ⟨sm_f37, List.forall_mem_cons.mpr ⟨sm_f38, List.forall_mem_cons.mpr ⟨sm_f39, List.forall_mem_cons.mpr ⟨sm_f40, List.forall_mem_cons.mpr ⟨sm_f41, List.forall_mem_cons.mpr ⟨sm_f42, List.forall_mem_cons.mpr ⟨sm_f43, List.forall_mem_cons.mpr ⟨sm_f44, List.forall_mem_cons.mpr ⟨sm_f45, List.forall_mem_cons.mpr ⟨sm_f46, List.forall_mem_cons.mpr ⟨sm_f47, List.forall_mem_cons.mpr ⟨sm_f48, List.forall_mem_cons.mpr ⟨sm_f49, List.forall_mem_cons.mpr ⟨sm_f50, List.forall_mem_cons.mpr ⟨sm_f51, List.forall_mem_cons.mpr ⟨sm_f52, List.forall_mem_cons.mpr ⟨sm_f53, List.forall_mem_cons.mpr ⟨sm_f54, List.forall_mem_cons.mpr ⟨sm_f55, List.forall_mem_cons.mpr ⟨sm_f56, List.forall_mem_cons.mpr ⟨sm_f57, List.forall_mem_cons.mpr ⟨sm_f58, List.forall_mem_cons.mpr ⟨sm_f59, List.forall_mem_cons.mpr ⟨sm_f60, List.forall_mem_cons.mpr ⟨sm_f61, List.forall_mem_cons.mpr ⟨sm_f62, List.forall_mem_cons.mpr ⟨sm_f63, List.forall_mem_cons.mpr ⟨sm_f64, List.forall_mem_cons.mpr ⟨sm_f65, List.forall_mem_cons.mpr ⟨sm_f66, List.forall_mem_cons.mpr ⟨sm_f67, List.forall_mem_cons.mpr ⟨sm_f68, List.forall_mem_cons.mpr ⟨sm_f69, List.forall_mem_cons.mpr ⟨sm_f70, List.forall_mem_cons.mpr ⟨sm_f71, List.forall_mem_cons.mpr ⟨sm_f72, List.forall_mem_cons.mpr ⟨sm_f73, List.forall_mem_cons.mpr ⟨sm_f74, List.forall_mem_cons.mpr ⟨sm_f75, List.forall_mem_cons.mpr ⟨sm_f76, List.forall_mem_cons.mpr ⟨sm_f77, List.forall_mem_cons.mpr ⟨sm_f78, List.forall_mem_cons.mpr ⟨sm_f79, List.forall_mem_cons.mpr ⟨sm_f80, List.forall_mem_cons.mpr ⟨sm_f81, List.forall_mem_cons.mpr ⟨sm_f82, List.forall_mem_cons.mpr ⟨sm_f83, List.forall_mem_cons.mpr ⟨sm_f84, List.forall_mem_cons.mpr ⟨sm_f85, List.forall_mem_cons.mpr ⟨sm_f86, List.forall_mem_cons.mpr ⟨sm_f87, List.forall_mem_cons.mpr ⟨sm_f88, List.forall_mem_cons.mpr ⟨sm_f89, List.forall_mem_cons.mpr ⟨sm_f90, List.forall_mem_cons.mpr ⟨sm_f91, List.forall_mem_cons.mpr ⟨sm_f92, List.forall_mem_cons.mpr ⟨sm_f93, List.forall_mem_cons.mpr ⟨sm_f94, List.forall_mem_cons.mpr ⟨sm_f95, List.forall_mem_cons.mpr ⟨sm_f96, List.forall_mem_cons.mpr ⟨sm_f97, List.forall_mem_cons.mpr ⟨sm_f98, List.forall_mem_cons.mpr ⟨sm_f99, List.forall_mem_cons.mpr ⟨sm_f100, List.forall_mem_cons.mpr ⟨sm_f101, List.forall_mem_cons.mpr ⟨sm_f102, List.forall_mem_cons.mpr ⟨sm_f103, List.forall_mem_cons.mpr ⟨sm_f104, List.forall_mem_cons.mpr ⟨sm_f105, List.forall_mem_cons.mpr ⟨sm_f106, List.forall_mem_cons.mpr ⟨sm_f107, List.forall_mem_cons.mpr ⟨sm_f108, List.forall_mem_cons.mpr ⟨sm_f109, List.forall_mem_cons.mpr ⟨sm_f110, List.forall_mem_cons.mpr ⟨sm_f111, List.forall_mem_cons.mpr ⟨sm_f112, List.forall_mem_cons.mpr ⟨sm_f113, List.forall_mem_cons.mpr ⟨sm_f114, List.forall_mem_cons.mpr ⟨sm_f115, List.forall_mem_cons.mpr ⟨sm_f116, List.forall_mem_cons.mpr ⟨sm_f117, List.forall_mem_cons.mpr ⟨sm_f118, List.forall_mem_cons.mpr ⟨sm_f119, List.forall_mem_cons.mpr ⟨sm_f120, List.forall_mem_cons.mpr ⟨sm_f121, List.forall_mem_cons.mpr ⟨sm_f122, List.forall_mem_cons.mpr ⟨sm_f123, List.forall_mem_cons.mpr ⟨sm_f124, List.forall_mem_cons.mpr ⟨sm_f125, List.forall_mem_cons.mpr ⟨sm_f126, List.forall_mem_cons.mpr ⟨sm_f127, List.forall_mem_cons.mpr ⟨sm_f128, List.forall_mem_cons.mpr ⟨sm_f129, List.forall_mem_cons.mpr ⟨sm_f130, List.forall_mem_cons.mpr ⟨sm_f131, List.forall_mem_cons.mpr ⟨sm_f132, List.forall_mem_cons.mpr ⟨sm_f133, List.forall_mem_cons.mpr ⟨sm_f134, List.forall_mem_cons.mpr ⟨sm_f135, List.forall_mem_cons.mpr ⟨sm_f136, List.forall_mem_cons.mpr ⟨sm_f137, List.forall_mem_cons.mpr ⟨sm_f138, List.forall_mem_cons.mpr ⟨sm_f139, List.forall_mem_cons.mpr ⟨sm_f140, List.forall_mem_cons.mpr ⟨sm_f141, List.forall_mem_cons.mpr ⟨sm_f142, List.forall_mem_cons.mpr ⟨sm_f143, List.forall_mem_cons.mpr ⟨sm_f144, List.forall_mem_cons.mpr ⟨sm_f145, List.forall_mem_cons.mpr ⟨sm_f146, List.forall_mem_cons.mpr ⟨sm_f147, List.forall_mem_cons.mpr ⟨sm_f148, List.forall_mem_cons.mpr ⟨sm_f149, List.forall_mem_cons.mpr ⟨sm_f150, List.forall_mem_cons.mpr ⟨sm_f151, List.forall_mem_cons.mpr ⟨sm_f152, List.forall_mem_cons.mpr ⟨sm_f153, List.forall_mem_cons.mpr ⟨sm_f154, List.forall_mem_cons.mpr ⟨sm_f155, List.forall_mem_cons.mpr ⟨sm_f156, List.forall_mem_cons.mpr ⟨sm_f157, List.forall_mem_cons.mpr ⟨sm_f158, List.forall_mem_cons.mpr ⟨sm_f159, List.forall_mem_cons.mpr ⟨sm_f160, List.forall_mem_cons.mpr ⟨sm_f161, List.forall_mem_cons.mpr ⟨sm_f162, List.forall_mem_cons.mpr ⟨sm_f163, List.forall_mem_cons.mpr ⟨sm_f164, List.forall_mem_cons.mpr ⟨sm_f165, List.forall_mem_cons.mpr ⟨sm_f166, List.forall_mem_cons.mpr ⟨sm_f167, List.forall_mem_cons.mpr ⟨sm_f168, List.forall_mem_cons.mpr ⟨sm_f169, fun _ h => absurd h List.not_mem_nil⟩⟩⟩⟩⟩⟩⟩⟩⟩⟩⟩⟩⟩⟩⟩⟩⟩⟩⟩⟩⟩⟩⟩⟩⟩⟩⟩⟩⟩⟩⟩⟩⟩⟩⟩⟩⟩⟩⟩⟩⟩⟩⟩⟩⟩⟩⟩⟩⟩⟩⟩⟩⟩⟩⟩⟩⟩⟩⟩⟩⟩⟩⟩⟩⟩⟩⟩⟩⟩⟩⟩⟩⟩⟩⟩⟩⟩⟩⟩⟩⟩⟩⟩⟩⟩⟩⟩⟩⟩⟩⟩⟩⟩⟩⟩⟩⟩⟩⟩⟩⟩⟩⟩⟩⟩⟩⟩⟩⟩⟩⟩⟩⟩⟩⟩⟩⟩⟩⟩⟩⟩⟩⟩⟩⟩⟩⟩⟩⟩⟩⟩⟩⟩⟩⟩⟩⟩⟩⟩⟩⟩⟩⟩⟩⟩⟩⟩⟩⟩⟩⟩⟩⟩⟩⟩⟩⟩⟩⟩⟩⟩⟩⟩⟩⟩⟩⟩⟩⟩⟩
def sm_Sq (q : Nat × Nat × Nat × Nat) : Prop := sm_w (.fieldLink (sm_c q.1) q.2.1 "java/lang/String" (if q.2.2.2 = 0 then "value" else "coder") (if q.2.2.2 = 0 then "[B" else "B")) ∧ q.2.2.1 = 13
theorem sm_g0 : sm_Sq (13, 9, 13, 0) := ⟨⟨sm_in7 (List.mem_of_getElem? (i := 163) rfl), rfl⟩, rfl⟩
theorem sm_g1 : sm_Sq (13, 15, 13, 1) := ⟨⟨sm_in7 (List.mem_of_getElem? (i := 162) rfl), rfl⟩, rfl⟩
theorem sm_c_FS : ∀ q ∈ sm_FS, sm_Sq q := List.forall_mem_cons.mpr ⟨sm_g0, List.forall_mem_cons.mpr ⟨sm_g1, fun _ h => absurd h List.not_mem_nil⟩⟩
def sm_Vq (q : Nat × Nat × Nat × Nat) : Prop := sm_w (.methodLink (sm_c q.1) q.2.1 (sm_y q.2.2.1)) ∧ sm_w (.instanceMethod (sm_y q.2.2.1)) ∧ sm_w (.selects (sm_y q.2.2.1).cls (sm_y q.2.2.1) (sm_y q.2.2.1)) ∧ (parseMethodDescriptor (sm_y q.2.2.1).desc).map (fun d => d.parameters.length) = some q.2.2.2 ∧ q.2.2.1 < 251
theorem sm_v0 : sm_Vq (0, 26, 2, 0) := ⟨⟨sm_in2 (List.mem_of_getElem? (i := 217) rfl), rfl⟩, ⟨sm_in2 (List.mem_of_getElem? (i := 219) rfl), rfl⟩, ⟨sm_ip1 (List.mem_of_getElem? (i := 5) rfl), rfl⟩, by decide +kernel, by decide⟩
theorem sm_v1 : sm_Vq (1, 47, 10, 2) := ⟨⟨sm_in3 (List.mem_of_getElem? (i := 158) rfl), rfl⟩, ⟨sm_in3 (List.mem_of_getElem? (i := 159) rfl), rfl⟩, ⟨sm_in3 (List.mem_of_getElem? (i := 160) rfl), rfl⟩, by decide +kernel, by decide⟩
theorem sm_v2 : sm_Vq (1, 51, 25, 0) := ⟨⟨sm_in3 (List.mem_of_getElem? (i := 150) rfl), rfl⟩, ⟨sm_in3 (List.mem_of_getElem? (i := 151) rfl), rfl⟩, ⟨sm_in3 (List.mem_of_getElem? (i := 152) rfl), rfl⟩, by decide +kernel, by decide⟩
theorem sm_v3 : sm_Vq (1, 57, 11, 1) := ⟨⟨sm_in3 (List.mem_of_getElem? (i := 154) rfl), rfl⟩, ⟨sm_in3 (List.mem_of_getElem? (i := 155) rfl), rfl⟩, ⟨sm_in3 (List.mem_of_getElem? (i := 156) rfl), rfl⟩, by decide +kernel, by decide⟩
theorem sm_v4 : sm_Vq (1, 61, 27, 6) := ⟨⟨sm_in3 (List.mem_of_getElem? (i := 162) rfl), rfl⟩, ⟨sm_in3 (List.mem_of_getElem? (i := 163) rfl), rfl⟩, ⟨sm_in3 (List.mem_of_getElem? (i := 164) rfl), rfl⟩, by decide +kernel, by decide⟩
theorem sm_v5 : sm_Vq (1, 68, 13, 4) := ⟨⟨sm_in3 (List.mem_of_getElem? (i := 212) rfl), rfl⟩, ⟨sm_in3 (List.mem_of_getElem? (i := 147) rfl), rfl⟩, ⟨sm_in3 (List.mem_of_getElem? (i := 148) rfl), rfl⟩, by decide +kernel, by decide⟩
theorem sm_v6 : sm_Vq (1, 80, 15, 2) := ⟨⟨sm_in3 (List.mem_of_getElem? (i := 217) rfl), rfl⟩, ⟨sm_in3 (List.mem_of_getElem? (i := 218) rfl), rfl⟩, ⟨sm_in3 (List.mem_of_getElem? (i := 219) rfl), rfl⟩, by decide +kernel, by decide⟩
theorem sm_v7 : sm_Vq (1, 84, 7, 1) := ⟨⟨sm_in3 (List.mem_of_getElem? (i := 207) rfl), rfl⟩, ⟨sm_in2 (List.mem_of_getElem? (i := 203) rfl), rfl⟩, ⟨sm_in2 (List.mem_of_getElem? (i := 204) rfl), rfl⟩, by decide +kernel, by decide⟩
theorem sm_v8 : sm_Vq (1, 94, 14, 4) := ⟨⟨sm_in3 (List.mem_of_getElem? (i := 208) rfl), rfl⟩, ⟨sm_in3 (List.mem_of_getElem? (i := 209) rfl), rfl⟩, ⟨sm_in3 (List.mem_of_getElem? (i := 210) rfl), rfl⟩, by decide +kernel, by decide⟩
theorem sm_v9 : sm_Vq (1, 97, 16, 3) := ⟨⟨sm_in3 (List.mem_of_getElem? (i := 213) rfl), rfl⟩, ⟨sm_in3 (List.mem_of_getElem? (i := 214) rfl), rfl⟩, ⟨sm_in3 (List.mem_of_getElem? (i := 215) rfl), rfl⟩, by decide +kernel, by decide⟩
theorem sm_v10 : sm_Vq (1, 101, 63, 4) := ⟨⟨sm_in3 (List.mem_of_getElem? (i := 221) rfl), rfl⟩, ⟨sm_in3 (List.mem_of_getElem? (i := 222) rfl), rfl⟩, ⟨sm_in3 (List.mem_of_getElem? (i := 223) rfl), rfl⟩, by decide +kernel, by decide⟩
theorem sm_v11 : sm_Vq (1, 105, 18, 2) := ⟨⟨sm_in4 (List.mem_of_getElem? (i := 18) rfl), rfl⟩, ⟨sm_in4 (List.mem_of_getElem? (i := 7) rfl), rfl⟩, ⟨sm_in4 (List.mem_of_getElem? (i := 8) rfl), rfl⟩, by decide +kernel, by decide⟩
theorem sm_v12 : sm_Vq (1, 111, 19, 2) := ⟨⟨sm_in4 (List.mem_of_getElem? (i := 93) rfl), rfl⟩, ⟨sm_in4 (List.mem_of_getElem? (i := 15) rfl), rfl⟩, ⟨sm_in4 (List.mem_of_getElem? (i := 16) rfl), rfl⟩, by decide +kernel, by decide⟩
theorem sm_v13 : sm_Vq (2, 33, 62, 1) := ⟨⟨sm_in4 (List.mem_of_getElem? (i := 212) rfl), rfl⟩, ⟨sm_in3 (List.mem_of_getElem? (i := 195) rfl), rfl⟩, ⟨sm_in3 (List.mem_of_getElem? (i := 196) rfl), rfl⟩, by decide +kernel, by decide⟩
theorem sm_v14 : sm_Vq (2, 47, 64, 3) := ⟨⟨sm_in4 (List.mem_of_getElem? (i := 222) rfl), rfl⟩, ⟨sm_in3 (List.mem_of_getElem? (i := 199) rfl), rfl⟩, ⟨sm_in3 (List.mem_of_getElem? (i := 200) rfl), rfl⟩, by decide +kernel, by decide⟩
theorem sm_v15 : sm_Vq (4, 35, 33, 0) := ⟨⟨sm_in3 (List.mem_of_getElem? (i := 8) rfl), rfl⟩, ⟨sm_in3 (List.mem_of_getElem? (i := 10) rfl), rfl⟩, ⟨sm_ip1 (List.mem_of_getElem? (i := 7) rfl), rfl⟩, by decide +kernel, by decide⟩
theorem sm_v16 : sm_Vq (4, 40, 39, 1) := ⟨⟨sm_in3 (List.mem_of_getElem? (i := 21) rfl), rfl⟩, ⟨sm_in3 (List.mem_of_getElem? (i := 23) rfl), rfl⟩, ⟨sm_ip1 (List.mem_of_getElem? (i := 10) rfl), rfl⟩, by decide +kernel, by decide⟩
theorem sm_v17 : sm_Vq (4, 44, 34, 1) := ⟨⟨sm_in3 (List.mem_of_getElem? (i := 12) rfl), rfl⟩, ⟨sm_in3 (List.mem_of_getElem? (i := 14) rfl), rfl⟩, ⟨sm_ip1 (List.mem_of_getElem? (i := 8) rfl), rfl⟩, by decide +kernel, by decide⟩
theorem sm_v18 : sm_Vq (4, 50, 40, 1) := ⟨⟨sm_in3 (List.mem_of_getElem? (i := 114) rfl), rfl⟩, ⟨sm_in3 (List.mem_of_getElem? (i := 116) rfl), rfl⟩, ⟨sm_ip1 (List.mem_of_getElem? (i := 12) rfl), rfl⟩, by decide +kernel, by decide⟩
theorem sm_v19 : sm_Vq (4, 53, 36, 0) := ⟨⟨sm_in3 (List.mem_of_getElem? (i := 16) rfl), rfl⟩, ⟨sm_in3 (List.mem_of_getElem? (i := 18) rfl), rfl⟩, ⟨sm_ip1 (List.mem_of_getElem? (i := 9) rfl), rfl⟩, by decide +kernel, by decide⟩
theorem sm_v20 : sm_Vq (4, 72, 37, 1) := ⟨⟨sm_in3 (List.mem_of_getElem? (i := 109) rfl), rfl⟩, ⟨sm_in3 (List.mem_of_getElem? (i := 111) rfl), rfl⟩, ⟨sm_ip1 (List.mem_of_getElem? (i := 11) rfl), rfl⟩, by decide +kernel, by decide⟩
theorem sm_v21 : sm_Vq (4, 77, 242, 1) := ⟨⟨sm_in3 (List.mem_of_getElem? (i := 25) rfl), rfl⟩, ⟨sm_in3 (List.mem_of_getElem? (i := 26) rfl), rfl⟩, ⟨sm_in3 (List.mem_of_getElem? (i := 27) rfl), rfl⟩, by decide +kernel, by decide⟩
theorem sm_v22 : sm_Vq (4, 83, 38, 0) := ⟨⟨sm_in3 (List.mem_of_getElem? (i := 119) rfl), rfl⟩, ⟨sm_in3 (List.mem_of_getElem? (i := 121) rfl), rfl⟩, ⟨sm_ip1 (List.mem_of_getElem? (i := 13) rfl), rfl⟩, by decide +kernel, by decide⟩
theorem sm_v23 : sm_Vq (5, 39, 43, 1) := ⟨⟨sm_in4 (List.mem_of_getElem? (i := 33) rfl), rfl⟩, ⟨sm_in4 (List.mem_of_getElem? (i := 35) rfl), rfl⟩, ⟨sm_ip2 (List.mem_of_getElem? (i := 4) rfl), rfl⟩, by decide +kernel, by decide⟩
theorem sm_v24 : sm_Vq (5, 55, 46, 1) := ⟨⟨sm_in4 (List.mem_of_getElem? (i := 51) rfl), rfl⟩, ⟨sm_in4 (List.mem_of_getElem? (i := 53) rfl), rfl⟩, ⟨sm_ip2 (List.mem_of_getElem? (i := 5) rfl), rfl⟩, by decide +kernel, by decide⟩
theorem sm_v25 : sm_Vq (5, 62, 47, 1) := ⟨⟨sm_in4 (List.mem_of_getElem? (i := 56) rfl), rfl⟩, ⟨sm_in4 (List.mem_of_getElem? (i := 58) rfl), rfl⟩, ⟨sm_ip2 (List.mem_of_getElem? (i := 6) rfl), rfl⟩, by decide +kernel, by decide⟩
theorem sm_v26 : sm_Vq (5, 65, 18, 2) := ⟨⟨sm_in4 (List.mem_of_getElem? (i := 55) rfl), rfl⟩, ⟨sm_in4 (List.mem_of_getElem? (i := 7) rfl), rfl⟩, ⟨sm_in4 (List.mem_of_getElem? (i := 8) rfl), rfl⟩, by decide +kernel, by decide⟩
theorem sm_v27 : sm_Vq (6, 22, 51, 0) := ⟨⟨sm_in2 (List.mem_of_getElem? (i := 186) rfl), rfl⟩, ⟨sm_in2 (List.mem_of_getElem? (i := 187) rfl), rfl⟩, ⟨sm_in2 (List.mem_of_getElem? (i := 188) rfl), rfl⟩, by decide +kernel, by decide⟩
theorem sm_v28 : sm_Vq (7, 33, 62, 1) := ⟨⟨sm_in4 (List.mem_of_getElem? (i := 69) rfl), rfl⟩, ⟨sm_in3 (List.mem_of_getElem? (i := 195) rfl), rfl⟩, ⟨sm_in3 (List.mem_of_getElem? (i := 196) rfl), rfl⟩, by decide +kernel, by decide⟩
theorem sm_v29 : sm_Vq (7, 37, 59, 3) := ⟨⟨sm_in4 (List.mem_of_getElem? (i := 70) rfl), rfl⟩, ⟨sm_in4 (List.mem_of_getElem? (i := 72) rfl), rfl⟩, ⟨sm_ip2 (List.mem_of_getElem? (i := 7) rfl), rfl⟩, by decide +kernel, by decide⟩
theorem sm_v30 : sm_Vq (7, 46, 60, 4) := ⟨⟨sm_in4 (List.mem_of_getElem? (i := 74) rfl), rfl⟩, ⟨sm_in4 (List.mem_of_getElem? (i := 76) rfl), rfl⟩, ⟨sm_ip2 (List.mem_of_getElem? (i := 8) rfl), rfl⟩, by decide +kernel, by decide⟩
theorem sm_v31 : sm_Vq (7, 50, 17, 2) := ⟨⟨sm_in4 (List.mem_of_getElem? (i := 83) rfl), rfl⟩, ⟨sm_in3 (List.mem_of_getElem? (i := 204) rfl), rfl⟩, ⟨sm_in3 (List.mem_of_getElem? (i := 205) rfl), rfl⟩, by decide +kernel, by decide⟩
theorem sm_v32 : sm_Vq (7, 54, 7, 1) := ⟨⟨sm_in4 (List.mem_of_getElem? (i := 78) rfl), rfl⟩, ⟨sm_in2 (List.mem_of_getElem? (i := 203) rfl), rfl⟩, ⟨sm_in2 (List.mem_of_getElem? (i := 204) rfl), rfl⟩, by decide +kernel, by decide⟩
theorem sm_v33 : sm_Vq (7, 58, 15, 2) := ⟨⟨sm_in4 (List.mem_of_getElem? (i := 79) rfl), rfl⟩, ⟨sm_in3 (List.mem_of_getElem? (i := 218) rfl), rfl⟩, ⟨sm_in3 (List.mem_of_getElem? (i := 219) rfl), rfl⟩, by decide +kernel, by decide⟩
theorem sm_v34 : sm_Vq (7, 73, 14, 4) := ⟨⟨sm_in4 (List.mem_of_getElem? (i := 80) rfl), rfl⟩, ⟨sm_in3 (List.mem_of_getElem? (i := 209) rfl), rfl⟩, ⟨sm_in3 (List.mem_of_getElem? (i := 210) rfl), rfl⟩, by decide +kernel, by decide⟩
theorem sm_v35 : sm_Vq (7, 77, 16, 3) := ⟨⟨sm_in4 (List.mem_of_getElem? (i := 81) rfl), rfl⟩, ⟨sm_in3 (List.mem_of_getElem? (i := 214) rfl), rfl⟩, ⟨sm_in3 (List.mem_of_getElem? (i := 215) rfl), rfl⟩, by decide +kernel, by decide⟩
theorem sm_v36 : sm_Vq (8, 21, 64, 3) := ⟨⟨sm_in3 (List.mem_of_getElem? (i := 198) rfl), rfl⟩, ⟨sm_in3 (List.mem_of_getElem? (i := 199) rfl), rfl⟩, ⟨sm_in3 (List.mem_of_getElem? (i := 200) rfl), rfl⟩, by decide +kernel, by decide⟩
theorem sm_v37 : sm_Vq (9, 22, 67, 1) := ⟨⟨sm_in5 (List.mem_of_getElem? (i := 15) rfl), rfl⟩, ⟨sm_in5 (List.mem_of_getElem? (i := 16) rfl), rfl⟩, ⟨sm_in5 (List.mem_of_getElem? (i := 17) rfl), rfl⟩, by decide +kernel, by decide⟩
theorem sm_v38 : sm_Vq (9, 26, 68, 1) := ⟨⟨sm_in5 (List.mem_of_getElem? (i := 24) rfl), rfl⟩, ⟨sm_in5 (List.mem_of_getElem? (i := 25) rfl), rfl⟩, ⟨sm_in5 (List.mem_of_getElem? (i := 26) rfl), rfl⟩, by decide +kernel, by decide⟩
theorem sm_v39 : sm_Vq (9, 46, 72, 4) := ⟨⟨sm_in5 (List.mem_of_getElem? (i := 20) rfl), rfl⟩, ⟨sm_in5 (List.mem_of_getElem? (i := 22) rfl), rfl⟩, ⟨sm_ip3 (List.mem_of_getElem? (i := 2) rfl), rfl⟩, by decide +kernel, by decide⟩
theorem sm_v40 : sm_Vq (9, 50, 75, 5) := ⟨⟨sm_in5 (List.mem_of_getElem? (i := 28) rfl), rfl⟩, ⟨sm_in5 (List.mem_of_getElem? (i := 30) rfl), rfl⟩, ⟨sm_ip3 (List.mem_of_getElem? (i := 3) rfl), rfl⟩, by decide +kernel, by decide⟩
theorem sm_v41 : sm_Vq (9, 60, 73, 5) := ⟨⟨sm_in5 (List.mem_of_getElem? (i := 39) rfl), rfl⟩, ⟨sm_in5 (List.mem_of_getElem? (i := 41) rfl), rfl⟩, ⟨sm_ip3 (List.mem_of_getElem? (i := 4) rfl), rfl⟩, by decide +kernel, by decide⟩
theorem sm_v42 : sm_Vq (10, 39, 78, 2) := ⟨⟨sm_in4 (List.mem_of_getElem? (i := 102) rfl), rfl⟩, ⟨sm_in4 (List.mem_of_getElem? (i := 104) rfl), rfl⟩, ⟨sm_ip2 (List.mem_of_getElem? (i := 9) rfl), rfl⟩, by decide +kernel, by decide⟩
theorem sm_v43 : sm_Vq (10, 52, 10, 2) := ⟨⟨sm_in4 (List.mem_of_getElem? (i := 106) rfl), rfl⟩, ⟨sm_in3 (List.mem_of_getElem? (i := 159) rfl), rfl⟩, ⟨sm_in3 (List.mem_of_getElem? (i := 160) rfl), rfl⟩, by decide +kernel, by decide⟩
theorem sm_v44 : sm_Vq (10, 61, 80, 1) := ⟨⟨sm_in4 (List.mem_of_getElem? (i := 119) rfl), rfl⟩, ⟨sm_in4 (List.mem_of_getElem? (i := 121) rfl), rfl⟩, ⟨sm_ip2 (List.mem_of_getElem? (i := 10) rfl), rfl⟩, by decide +kernel, by decide⟩
theorem sm_v45 : sm_Vq (10, 71, 79, 0) := ⟨⟨sm_in4 (List.mem_of_getElem? (i := 114) rfl), rfl⟩, ⟨sm_in4 (List.mem_of_getElem? (i := 115) rfl), rfl⟩, ⟨sm_in4 (List.mem_of_getElem? (i := 116) rfl), rfl⟩, by decide +kernel, by decide⟩
theorem sm_v46 : sm_Vq (10, 75, 82, 3) := ⟨⟨sm_in4 (List.mem_of_getElem? (i := 123) rfl), rfl⟩, ⟨sm_in4 (List.mem_of_getElem? (i := 125) rfl), rfl⟩, ⟨sm_ip2 (List.mem_of_getElem? (i := 11) rfl), rfl⟩, by decide +kernel, by decide⟩
theorem sm_v47 : sm_Vq (11, 105, 8, 1) := ⟨⟨sm_in2 (List.mem_of_getElem? (i := 144) rfl), rfl⟩, ⟨sm_in2 (List.mem_of_getElem? (i := 145) rfl), rfl⟩, ⟨sm_in2 (List.mem_of_getElem? (i := 146) rfl), rfl⟩, by decide +kernel, by decide⟩
theorem sm_v48 : sm_Vq (11, 115, 129, 3) := ⟨⟨sm_in2 (List.mem_of_getElem? (i := 152) rfl), rfl⟩, ⟨sm_in2 (List.mem_of_getElem? (i := 154) rfl), rfl⟩, ⟨sm_ip1 (List.mem_of_getElem? (i := 0) rfl), rfl⟩, by decide +kernel, by decide⟩
theorem sm_v49 : sm_Vq (11, 122, 130, 3) := ⟨⟨sm_in2 (List.mem_of_getElem? (i := 160) rfl), rfl⟩, ⟨sm_in2 (List.mem_of_getElem? (i := 162) rfl), rfl⟩, ⟨sm_ip1 (List.mem_of_getElem? (i := 1) rfl), rfl⟩, by decide +kernel, by decide⟩
theorem sm_v50 : sm_Vq (11, 130, 49, 0) := ⟨⟨sm_in2 (List.mem_of_getElem? (i := 178) rfl), rfl⟩, ⟨sm_in2 (List.mem_of_getElem? (i := 179) rfl), rfl⟩, ⟨sm_in2 (List.mem_of_getElem? (i := 180) rfl), rfl⟩, by decide +kernel, by decide⟩
theorem sm_v51 : sm_Vq (11, 134, 52, 1) := ⟨⟨sm_in2 (List.mem_of_getElem? (i := 182) rfl), rfl⟩, ⟨sm_in2 (List.mem_of_getElem? (i := 183) rfl), rfl⟩, ⟨sm_in2 (List.mem_of_getElem? (i := 184) rfl), rfl⟩, by decide +kernel, by decide⟩
theorem sm_v52 : sm_Vq (11, 140, 131, 2) := ⟨⟨sm_in2 (List.mem_of_getElem? (i := 190) rfl), rfl⟩, ⟨sm_in2 (List.mem_of_getElem? (i := 192) rfl), rfl⟩, ⟨sm_ip1 (List.mem_of_getElem? (i := 2) rfl), rfl⟩, by decide +kernel, by decide⟩
theorem sm_v53 : sm_Vq (11, 144, 132, 2) := ⟨⟨sm_in2 (List.mem_of_getElem? (i := 198) rfl), rfl⟩, ⟨sm_in2 (List.mem_of_getElem? (i := 200) rfl), rfl⟩, ⟨sm_ip1 (List.mem_of_getElem? (i := 3) rfl), rfl⟩, by decide +kernel, by decide⟩
theorem sm_v54 : sm_Vq (11, 151, 133, 2) := ⟨⟨sm_in2 (List.mem_of_getElem? (i := 209) rfl), rfl⟩, ⟨sm_in2 (List.mem_of_getElem? (i := 211) rfl), rfl⟩, ⟨sm_ip1 (List.mem_of_getElem? (i := 4) rfl), rfl⟩, by decide +kernel, by decide⟩
theorem sm_v55 : sm_Vq (11, 155, 1, 4) := ⟨⟨sm_in2 (List.mem_of_getElem? (i := 213) rfl), rfl⟩, ⟨sm_in2 (List.mem_of_getElem? (i := 214) rfl), rfl⟩, ⟨sm_in2 (List.mem_of_getElem? (i := 215) rfl), rfl⟩, by decide +kernel, by decide⟩
theorem sm_v56 : sm_Vq (11, 159, 134, 3) := ⟨⟨sm_in2 (List.mem_of_getElem? (i := 224) rfl), rfl⟩, ⟨sm_in2 (List.mem_of_getElem? (i := 226) rfl), rfl⟩, ⟨sm_ip1 (List.mem_of_getElem? (i := 6) rfl), rfl⟩, by decide +kernel, by decide⟩
theorem sm_v57 : sm_Vq (11, 163, 7, 1) := ⟨⟨sm_in2 (List.mem_of_getElem? (i := 202) rfl), rfl⟩, ⟨sm_in2 (List.mem_of_getElem? (i := 203) rfl), rfl⟩, ⟨sm_in2 (List.mem_of_getElem? (i := 204) rfl), rfl⟩, by decide +kernel, by decide⟩
theorem sm_v58 : sm_Vq (11, 172, 31, 1) := ⟨⟨sm_in2 (List.mem_of_getElem? (i := 236) rfl), rfl⟩, ⟨sm_in2 (List.mem_of_getElem? (i := 237) rfl), rfl⟩, ⟨sm_in2 (List.mem_of_getElem? (i := 238) rfl), rfl⟩, by decide +kernel, by decide⟩
theorem sm_v59 : sm_Vq (11, 176, 32, 0) := ⟨⟨sm_in3 (List.mem_of_getElem? (i := 4) rfl), rfl⟩, ⟨sm_in3 (List.mem_of_getElem? (i := 5) rfl), rfl⟩, ⟨sm_in3 (List.mem_of_getElem? (i := 6) rfl), rfl⟩, by decide +kernel, by decide⟩
theorem sm_v60 : sm_Vq (11, 186, 26, 2) := ⟨⟨sm_in3 (List.mem_of_getElem? (i := 134) rfl), rfl⟩, ⟨sm_in3 (List.mem_of_getElem? (i := 135) rfl), rfl⟩, ⟨sm_in3 (List.mem_of_getElem? (i := 136) rfl), rfl⟩, by decide +kernel, by decide⟩
theorem sm_v61 : sm_Vq (11, 196, 13, 4) := ⟨⟨sm_in3 (List.mem_of_getElem? (i := 146) rfl), rfl⟩, ⟨sm_in3 (List.mem_of_getElem? (i := 147) rfl), rfl⟩, ⟨sm_in3 (List.mem_of_getElem? (i := 148) rfl), rfl⟩, by decide +kernel, by decide⟩
theorem sm_v62 : sm_Vq (11, 200, 6, 1) := ⟨⟨sm_in2 (List.mem_of_getElem? (i := 156) rfl), rfl⟩, ⟨sm_in2 (List.mem_of_getElem? (i := 157) rfl), rfl⟩, ⟨sm_in2 (List.mem_of_getElem? (i := 158) rfl), rfl⟩, by decide +kernel, by decide⟩
theorem sm_v63 : sm_Vq (11, 203, 135, 2) := ⟨⟨sm_in3 (List.mem_of_getElem? (i := 177) rfl), rfl⟩, ⟨sm_in3 (List.mem_of_getElem? (i := 179) rfl), rfl⟩, ⟨sm_ip1 (List.mem_of_getElem? (i := 14) rfl), rfl⟩, by decide +kernel, by decide⟩
theorem sm_v64 : sm_Vq (11, 206, 140, 2) := ⟨⟨sm_in3 (List.mem_of_getElem? (i := 181) rfl), rfl⟩, ⟨sm_in3 (List.mem_of_getElem? (i := 183) rfl), rfl⟩, ⟨sm_ip1 (List.mem_of_getElem? (i := 15) rfl), rfl⟩, by decide +kernel, by decide⟩
theorem sm_v65 : sm_Vq (11, 209, 141, 2) := ⟨⟨sm_in3 (List.mem_of_getElem? (i := 230) rfl), rfl⟩, ⟨sm_in3 (List.mem_of_getElem? (i := 232) rfl), rfl⟩, ⟨sm_ip2 (List.mem_of_getElem? (i := 2) rfl), rfl⟩, by decide +kernel, by decide⟩
theorem sm_v66 : sm_Vq (11, 212, 142, 1) := ⟨⟨sm_in3 (List.mem_of_getElem? (i := 234) rfl), rfl⟩, ⟨sm_in3 (List.mem_of_getElem? (i := 236) rfl), rfl⟩, ⟨sm_ip2 (List.mem_of_getElem? (i := 3) rfl), rfl⟩, by decide +kernel, by decide⟩
theorem sm_v67 : sm_Vq (11, 216, 139, 1) := ⟨⟨sm_in3 (List.mem_of_getElem? (i := 185) rfl), rfl⟩, ⟨sm_in3 (List.mem_of_getElem? (i := 187) rfl), rfl⟩, ⟨sm_ip2 (List.mem_of_getElem? (i := 0) rfl), rfl⟩, by decide +kernel, by decide⟩
theorem sm_v68 : sm_Vq (11, 220, 62, 1) := ⟨⟨sm_in3 (List.mem_of_getElem? (i := 194) rfl), rfl⟩, ⟨sm_in3 (List.mem_of_getElem? (i := 195) rfl), rfl⟩, ⟨sm_in3 (List.mem_of_getElem? (i := 196) rfl), rfl⟩, by decide +kernel, by decide⟩
theorem sm_v69 : sm_Vq (11, 223, 138, 2) := ⟨⟨sm_in3 (List.mem_of_getElem? (i := 190) rfl), rfl⟩, ⟨sm_in3 (List.mem_of_getElem? (i := 192) rfl), rfl⟩, ⟨sm_ip2 (List.mem_of_getElem? (i := 1) rfl), rfl⟩, by decide +kernel, by decide⟩
theorem sm_v70 : sm_Vq (11, 226, 17, 2) := ⟨⟨sm_in3 (List.mem_of_getElem? (i := 203) rfl), rfl⟩, ⟨sm_in3 (List.mem_of_getElem? (i := 204) rfl), rfl⟩, ⟨sm_in3 (List.mem_of_getElem? (i := 205) rfl), rfl⟩, by decide +kernel, by decide⟩
theorem sm_v71 : sm_Vq (11, 230, 18, 2) := ⟨⟨sm_in4 (List.mem_of_getElem? (i := 6) rfl), rfl⟩, ⟨sm_in4 (List.mem_of_getElem? (i := 7) rfl), rfl⟩, ⟨sm_in4 (List.mem_of_getElem? (i := 8) rfl), rfl⟩, by decide +kernel, by decide⟩
theorem sm_v72 : sm_Vq (11, 233, 19, 2) := ⟨⟨sm_in4 (List.mem_of_getElem? (i := 14) rfl), rfl⟩, ⟨sm_in4 (List.mem_of_getElem? (i := 15) rfl), rfl⟩, ⟨sm_in4 (List.mem_of_getElem? (i := 16) rfl), rfl⟩, by decide +kernel, by decide⟩
theorem sm_v73 : sm_Vq (11, 236, 42, 1) := ⟨⟨sm_in4 (List.mem_of_getElem? (i := 23) rfl), rfl⟩, ⟨sm_in4 (List.mem_of_getElem? (i := 24) rfl), rfl⟩, ⟨sm_in4 (List.mem_of_getElem? (i := 25) rfl), rfl⟩, by decide +kernel, by decide⟩
theorem sm_v74 : sm_Vq (11, 244, 44, 2) := ⟨⟨sm_in4 (List.mem_of_getElem? (i := 38) rfl), rfl⟩, ⟨sm_in4 (List.mem_of_getElem? (i := 39) rfl), rfl⟩, ⟨sm_in4 (List.mem_of_getElem? (i := 40) rfl), rfl⟩, by decide +kernel, by decide⟩
theorem sm_v75 : sm_Vq (11, 247, 45, 1) := ⟨⟨sm_in4 (List.mem_of_getElem? (i := 47) rfl), rfl⟩, ⟨sm_in4 (List.mem_of_getElem? (i := 48) rfl), rfl⟩, ⟨sm_in4 (List.mem_of_getElem? (i := 49) rfl), rfl⟩, by decide +kernel, by decide⟩
theorem sm_v76 : sm_Vq (11, 250, 58, 2) := ⟨⟨sm_in4 (List.mem_of_getElem? (i := 65) rfl), rfl⟩, ⟨sm_in4 (List.mem_of_getElem? (i := 66) rfl), rfl⟩, ⟨sm_in4 (List.mem_of_getElem? (i := 67) rfl), rfl⟩, by decide +kernel, by decide⟩
theorem sm_v77 : sm_Vq (11, 260, 20, 1) := ⟨⟨sm_in4 (List.mem_of_getElem? (i := 88) rfl), rfl⟩, ⟨sm_in4 (List.mem_of_getElem? (i := 89) rfl), rfl⟩, ⟨sm_in4 (List.mem_of_getElem? (i := 90) rfl), rfl⟩, by decide +kernel, by decide⟩
theorem sm_v78 : sm_Vq (11, 263, 77, 1) := ⟨⟨sm_in4 (List.mem_of_getElem? (i := 98) rfl), rfl⟩, ⟨sm_in4 (List.mem_of_getElem? (i := 99) rfl), rfl⟩, ⟨sm_in4 (List.mem_of_getElem? (i := 100) rfl), rfl⟩, by decide +kernel, by decide⟩
theorem sm_v79 : sm_Vq (11, 266, 81, 0) := ⟨⟨sm_in4 (List.mem_of_getElem? (i := 107) rfl), rfl⟩, ⟨sm_in4 (List.mem_of_getElem? (i := 108) rfl), rfl⟩, ⟨sm_in4 (List.mem_of_getElem? (i := 109) rfl), rfl⟩, by decide +kernel, by decide⟩
theorem sm_v80 : sm_Vq (11, 271, 79, 0) := ⟨⟨sm_in4 (List.mem_of_getElem? (i := 132) rfl), rfl⟩, ⟨sm_in4 (List.mem_of_getElem? (i := 115) rfl), rfl⟩, ⟨sm_in4 (List.mem_of_getElem? (i := 116) rfl), rfl⟩, by decide +kernel, by decide⟩
theorem sm_v81 : sm_Vq (11, 277, 136, 1) := ⟨⟨sm_in4 (List.mem_of_getElem? (i := 140) rfl), rfl⟩, ⟨sm_in4 (List.mem_of_getElem? (i := 142) rfl), rfl⟩, ⟨sm_ip2 (List.mem_of_getElem? (i := 12) rfl), rfl⟩, by decide +kernel, by decide⟩
theorem sm_v82 : sm_Vq (11, 280, 143, 2) := ⟨⟨sm_in4 (List.mem_of_getElem? (i := 144) rfl), rfl⟩, ⟨sm_in4 (List.mem_of_getElem? (i := 146) rfl), rfl⟩, ⟨sm_ip2 (List.mem_of_getElem? (i := 13) rfl), rfl⟩, by decide +kernel, by decide⟩
theorem sm_v83 : sm_Vq (11, 286, 144, 5) := ⟨⟨sm_in4 (List.mem_of_getElem? (i := 152) rfl), rfl⟩, ⟨sm_in4 (List.mem_of_getElem? (i := 154) rfl), rfl⟩, ⟨sm_ip2 (List.mem_of_getElem? (i := 14) rfl), rfl⟩, by decide +kernel, by decide⟩
theorem sm_v84 : sm_Vq (11, 293, 10, 2) := ⟨⟨sm_in4 (List.mem_of_getElem? (i := 160) rfl), rfl⟩, ⟨sm_in3 (List.mem_of_getElem? (i := 159) rfl), rfl⟩, ⟨sm_in3 (List.mem_of_getElem? (i := 160) rfl), rfl⟩, by decide +kernel, by decide⟩
theorem sm_v85 : sm_Vq (11, 296, 12, 1) := ⟨⟨sm_in4 (List.mem_of_getElem? (i := 161) rfl), rfl⟩, ⟨sm_in4 (List.mem_of_getElem? (i := 162) rfl), rfl⟩, ⟨sm_in4 (List.mem_of_getElem? (i := 163) rfl), rfl⟩, by decide +kernel, by decide⟩
theorem sm_v86 : sm_Vq (11, 299, 145, 3) := ⟨⟨sm_in4 (List.mem_of_getElem? (i := 165) rfl), rfl⟩, ⟨sm_in4 (List.mem_of_getElem? (i := 167) rfl), rfl⟩, ⟨sm_ip2 (List.mem_of_getElem? (i := 15) rfl), rfl⟩, by decide +kernel, by decide⟩
theorem sm_v87 : sm_Vq (11, 302, 146, 6) := ⟨⟨sm_in4 (List.mem_of_getElem? (i := 173) rfl), rfl⟩, ⟨sm_in4 (List.mem_of_getElem? (i := 175) rfl), rfl⟩, ⟨sm_ip3 (List.mem_of_getElem? (i := 0) rfl), rfl⟩, by decide +kernel, by decide⟩
theorem sm_v88 : sm_Vq (11, 306, 14, 4) := ⟨⟨sm_in4 (List.mem_of_getElem? (i := 177) rfl), rfl⟩, ⟨sm_in3 (List.mem_of_getElem? (i := 209) rfl), rfl⟩, ⟨sm_in3 (List.mem_of_getElem? (i := 210) rfl), rfl⟩, by decide +kernel, by decide⟩
theorem sm_v89 : sm_Vq (11, 315, 147, 1) := ⟨⟨sm_in4 (List.mem_of_getElem? (i := 184) rfl), rfl⟩, ⟨sm_in4 (List.mem_of_getElem? (i := 186) rfl), rfl⟩, ⟨sm_ip3 (List.mem_of_getElem? (i := 1) rfl), rfl⟩, by decide +kernel, by decide⟩
theorem sm_v90 : sm_Vq (11, 321, 22, 3) := ⟨⟨sm_in4 (List.mem_of_getElem? (i := 208) rfl), rfl⟩, ⟨sm_in4 (List.mem_of_getElem? (i := 209) rfl), rfl⟩, ⟨sm_in4 (List.mem_of_getElem? (i := 210) rfl), rfl⟩, by decide +kernel, by decide⟩
theorem sm_v91 : sm_Vq (11, 329, 23, 2) := ⟨⟨sm_in4 (List.mem_of_getElem? (i := 218) rfl), rfl⟩, ⟨sm_in4 (List.mem_of_getElem? (i := 219) rfl), rfl⟩, ⟨sm_in4 (List.mem_of_getElem? (i := 220) rfl), rfl⟩, by decide +kernel, by decide⟩
theorem sm_v92 : sm_Vq (11, 333, 3, 0) := ⟨⟨sm_in4 (List.mem_of_getElem? (i := 227) rfl), rfl⟩, ⟨sm_in4 (List.mem_of_getElem? (i := 228) rfl), rfl⟩, ⟨sm_in4 (List.mem_of_getElem? (i := 229) rfl), rfl⟩, by decide +kernel, by decide⟩
theorem sm_v93 : sm_Vq (11, 348, 4, 0) := ⟨⟨sm_in4 (List.mem_of_getElem? (i := 235) rfl), rfl⟩, ⟨sm_in4 (List.mem_of_getElem? (i := 236) rfl), rfl⟩, ⟨sm_in4 (List.mem_of_getElem? (i := 237) rfl), rfl⟩, by decide +kernel, by decide⟩
theorem sm_v94 : sm_Vq (11, 357, 66, 1) := ⟨⟨sm_in5 (List.mem_of_getElem? (i := 3) rfl), rfl⟩, ⟨sm_in5 (List.mem_of_getElem? (i := 4) rfl), rfl⟩, ⟨sm_in5 (List.mem_of_getElem? (i := 5) rfl), rfl⟩, by decide +kernel, by decide⟩
theorem sm_v95 : sm_Vq (11, 359, 71, 3) := ⟨⟨sm_in5 (List.mem_of_getElem? (i := 11) rfl), rfl⟩, ⟨sm_in5 (List.mem_of_getElem? (i := 12) rfl), rfl⟩, ⟨sm_in5 (List.mem_of_getElem? (i := 13) rfl), rfl⟩, by decide +kernel, by decide⟩
theorem sm_v96 : sm_Vq (11, 362, 70, 0) := ⟨⟨sm_in5 (List.mem_of_getElem? (i := 47) rfl), rfl⟩, ⟨sm_in5 (List.mem_of_getElem? (i := 48) rfl), rfl⟩, ⟨sm_in5 (List.mem_of_getElem? (i := 49) rfl), rfl⟩, by decide +kernel, by decide⟩
theorem sm_v97 : sm_Vq (11, 368, 67, 1) := ⟨⟨sm_in5 (List.mem_of_getElem? (i := 56) rfl), rfl⟩, ⟨sm_in5 (List.mem_of_getElem? (i := 16) rfl), rfl⟩, ⟨sm_in5 (List.mem_of_getElem? (i := 17) rfl), rfl⟩, by decide +kernel, by decide⟩
theorem sm_v98 : sm_Vq (11, 371, 53, 1) := ⟨⟨sm_in5 (List.mem_of_getElem? (i := 57) rfl), rfl⟩, ⟨sm_in5 (List.mem_of_getElem? (i := 58) rfl), rfl⟩, ⟨sm_in5 (List.mem_of_getElem? (i := 59) rfl), rfl⟩, by decide +kernel, by decide⟩
theorem sm_v99 : sm_Vq (11, 374, 54, 2) := ⟨⟨sm_in5 (List.mem_of_getElem? (i := 65) rfl), rfl⟩, ⟨sm_in5 (List.mem_of_getElem? (i := 66) rfl), rfl⟩, ⟨sm_in5 (List.mem_of_getElem? (i := 67) rfl), rfl⟩, by decide +kernel, by decide⟩
theorem sm_v100 : sm_Vq (11, 378, 137, 2) := ⟨⟨sm_in5 (List.mem_of_getElem? (i := 78) rfl), rfl⟩, ⟨sm_in5 (List.mem_of_getElem? (i := 80) rfl), rfl⟩, ⟨sm_ip3 (List.mem_of_getElem? (i := 5) rfl), rfl⟩, by decide +kernel, by decide⟩
theorem sm_v101 : sm_Vq (11, 381, 56, 2) := ⟨⟨sm_in5 (List.mem_of_getElem? (i := 87) rfl), rfl⟩, ⟨sm_in5 (List.mem_of_getElem? (i := 88) rfl), rfl⟩, ⟨sm_in5 (List.mem_of_getElem? (i := 89) rfl), rfl⟩, by decide +kernel, by decide⟩
theorem sm_v102 : sm_Vq (11, 393, 51, 0) := ⟨⟨sm_in5 (List.mem_of_getElem? (i := 82) rfl), rfl⟩, ⟨sm_in2 (List.mem_of_getElem? (i := 187) rfl), rfl⟩, ⟨sm_in2 (List.mem_of_getElem? (i := 188) rfl), rfl⟩, by decide +kernel, by decide⟩
theorem sm_v103 : sm_Vq (11, 399, 55, 2) := ⟨⟨sm_in5 (List.mem_of_getElem? (i := 83) rfl), rfl⟩, ⟨sm_in5 (List.mem_of_getElem? (i := 84) rfl), rfl⟩, ⟨sm_in5 (List.mem_of_getElem? (i := 85) rfl), rfl⟩, by decide +kernel, by decide⟩
theorem sm_v104 : sm_Vq (11, 408, 50, 0) := ⟨⟨sm_in5 (List.mem_of_getElem? (i := 105) rfl), rfl⟩, ⟨sm_in5 (List.mem_of_getElem? (i := 106) rfl), rfl⟩, ⟨sm_in5 (List.mem_of_getElem? (i := 107) rfl), rfl⟩, by decide +kernel, by decide⟩
theorem sm_v105 : sm_Vq (11, 413, 69, 2) := ⟨⟨sm_in5 (List.mem_of_getElem? (i := 109) rfl), rfl⟩, ⟨sm_in5 (List.mem_of_getElem? (i := 110) rfl), rfl⟩, ⟨sm_in5 (List.mem_of_getElem? (i := 111) rfl), rfl⟩, by decide +kernel, by decide⟩
theorem sm_v106 : sm_Vq (11, 416, 68, 1) := ⟨⟨sm_in5 (List.mem_of_getElem? (i := 113) rfl), rfl⟩, ⟨sm_in5 (List.mem_of_getElem? (i := 25) rfl), rfl⟩, ⟨sm_in5 (List.mem_of_getElem? (i := 26) rfl), rfl⟩, by decide +kernel, by decide⟩
theorem sm_v107 : sm_Vq (11, 425, 9, 2) := ⟨⟨sm_in2 (List.mem_of_getElem? (i := 164) rfl), rfl⟩, ⟨sm_in2 (List.mem_of_getElem? (i := 165) rfl), rfl⟩, ⟨sm_in2 (List.mem_of_getElem? (i := 166) rfl), rfl⟩, by decide +kernel, by decide⟩
theorem sm_v108 : sm_Vq (12, 111, 155, 1) := ⟨⟨sm_in6 (List.mem_of_getElem? (i := 53) rfl), rfl⟩, ⟨sm_in6 (List.mem_of_getElem? (i := 55) rfl), rfl⟩, ⟨sm_ip3 (List.mem_of_getElem? (i := 7) rfl), rfl⟩, by decide +kernel, by decide⟩
theorem sm_v109 : sm_Vq (12, 117, 158, 3) := ⟨⟨sm_in6 (List.mem_of_getElem? (i := 49) rfl), rfl⟩, ⟨sm_in6 (List.mem_of_getElem? (i := 51) rfl), rfl⟩, ⟨sm_ip3 (List.mem_of_getElem? (i := 6) rfl), rfl⟩, by decide +kernel, by decide⟩
theorem sm_v110 : sm_Vq (12, 120, 159, 3) := ⟨⟨sm_in6 (List.mem_of_getElem? (i := 58) rfl), rfl⟩, ⟨sm_in6 (List.mem_of_getElem? (i := 60) rfl), rfl⟩, ⟨sm_ip3 (List.mem_of_getElem? (i := 8) rfl), rfl⟩, by decide +kernel, by decide⟩
theorem sm_v111 : sm_Vq (12, 132, 156, 1) := ⟨⟨sm_in6 (List.mem_of_getElem? (i := 80) rfl), rfl⟩, ⟨sm_in6 (List.mem_of_getElem? (i := 82) rfl), rfl⟩, ⟨sm_ip3 (List.mem_of_getElem? (i := 10) rfl), rfl⟩, by decide +kernel, by decide⟩
theorem sm_v112 : sm_Vq (12, 139, 162, 2) := ⟨⟨sm_in6 (List.mem_of_getElem? (i := 75) rfl), rfl⟩, ⟨sm_in6 (List.mem_of_getElem? (i := 77) rfl), rfl⟩, ⟨sm_ip3 (List.mem_of_getElem? (i := 9) rfl), rfl⟩, by decide +kernel, by decide⟩
theorem sm_v113 : sm_Vq (12, 147, 152, 2) := ⟨⟨sm_in6 (List.mem_of_getElem? (i := 89) rfl), rfl⟩, ⟨sm_in6 (List.mem_of_getElem? (i := 91) rfl), rfl⟩, ⟨sm_ip3 (List.mem_of_getElem? (i := 11) rfl), rfl⟩, by decide +kernel, by decide⟩
theorem sm_v114 : sm_Vq (12, 168, 167, 0) := ⟨⟨sm_in6 (List.mem_of_getElem? (i := 135) rfl), rfl⟩, ⟨sm_in6 (List.mem_of_getElem? (i := 137) rfl), rfl⟩, ⟨sm_ip4 (List.mem_of_getElem? (i := 3) rfl), rfl⟩, by decide +kernel, by decide⟩
theorem sm_v115 : sm_Vq (12, 172, 171, 0) := ⟨⟨sm_in6 (List.mem_of_getElem? (i := 115) rfl), rfl⟩, ⟨sm_in6 (List.mem_of_getElem? (i := 117) rfl), rfl⟩, ⟨sm_ip3 (List.mem_of_getElem? (i := 14) rfl), rfl⟩, by decide +kernel, by decide⟩
theorem sm_v116 : sm_Vq (12, 175, 169, 1) := ⟨⟨sm_in6 (List.mem_of_getElem? (i := 143) rfl), rfl⟩, ⟨sm_in6 (List.mem_of_getElem? (i := 145) rfl), rfl⟩, ⟨sm_ip4 (List.mem_of_getElem? (i := 5) rfl), rfl⟩, by decide +kernel, by decide⟩
theorem sm_v117 : sm_Vq (12, 178, 172, 0) := ⟨⟨sm_in6 (List.mem_of_getElem? (i := 119) rfl), rfl⟩, ⟨sm_in6 (List.mem_of_getElem? (i := 121) rfl), rfl⟩, ⟨sm_ip3 (List.mem_of_getElem? (i := 15) rfl), rfl⟩, by decide +kernel, by decide⟩
theorem sm_v118 : sm_Vq (12, 181, 173, 0) := ⟨⟨sm_in6 (List.mem_of_getElem? (i := 123) rfl), rfl⟩, ⟨sm_in6 (List.mem_of_getElem? (i := 125) rfl), rfl⟩, ⟨sm_ip4 (List.mem_of_getElem? (i := 0) rfl), rfl⟩, by decide +kernel, by decide⟩
theorem sm_v119 : sm_Vq (12, 184, 174, 0) := ⟨⟨sm_in6 (List.mem_of_getElem? (i := 127) rfl), rfl⟩, ⟨sm_in6 (List.mem_of_getElem? (i := 129) rfl), rfl⟩, ⟨sm_ip4 (List.mem_of_getElem? (i := 1) rfl), rfl⟩, by decide +kernel, by decide⟩
theorem sm_v120 : sm_Vq (12, 187, 176, 0) := ⟨⟨sm_in6 (List.mem_of_getElem? (i := 131) rfl), rfl⟩, ⟨sm_in6 (List.mem_of_getElem? (i := 133) rfl), rfl⟩, ⟨sm_ip4 (List.mem_of_getElem? (i := 2) rfl), rfl⟩, by decide +kernel, by decide⟩
theorem sm_v121 : sm_Vq (12, 193, 168, 0) := ⟨⟨sm_in6 (List.mem_of_getElem? (i := 139) rfl), rfl⟩, ⟨sm_in6 (List.mem_of_getElem? (i := 141) rfl), rfl⟩, ⟨sm_ip4 (List.mem_of_getElem? (i := 4) rfl), rfl⟩, by decide +kernel, by decide⟩
theorem sm_v122 : sm_Vq (12, 196, 170, 0) := ⟨⟨sm_in6 (List.mem_of_getElem? (i := 111) rfl), rfl⟩, ⟨sm_in6 (List.mem_of_getElem? (i := 113) rfl), rfl⟩, ⟨sm_ip3 (List.mem_of_getElem? (i := 13) rfl), rfl⟩, by decide +kernel, by decide⟩
theorem sm_v123 : sm_Vq (12, 202, 177, 2) := ⟨⟨sm_in6 (List.mem_of_getElem? (i := 107) rfl), rfl⟩, ⟨sm_in6 (List.mem_of_getElem? (i := 109) rfl), rfl⟩, ⟨sm_ip3 (List.mem_of_getElem? (i := 12) rfl), rfl⟩, by decide +kernel, by decide⟩
theorem sm_v124 : sm_Vq (12, 208, 180, 2) := ⟨⟨sm_in6 (List.mem_of_getElem? (i := 162) rfl), rfl⟩, ⟨sm_in6 (List.mem_of_getElem? (i := 164) rfl), rfl⟩, ⟨sm_ip4 (List.mem_of_getElem? (i := 8) rfl), rfl⟩, by decide +kernel, by decide⟩
theorem sm_v125 : sm_Vq (12, 215, 181, 1) := ⟨⟨sm_in6 (List.mem_of_getElem? (i := 158) rfl), rfl⟩, ⟨sm_in6 (List.mem_of_getElem? (i := 160) rfl), rfl⟩, ⟨sm_ip4 (List.mem_of_getElem? (i := 7) rfl), rfl⟩, by decide +kernel, by decide⟩
theorem sm_v126 : sm_Vq (12, 221, 179, 0) := ⟨⟨sm_in6 (List.mem_of_getElem? (i := 154) rfl), rfl⟩, ⟨sm_in6 (List.mem_of_getElem? (i := 156) rfl), rfl⟩, ⟨sm_ip4 (List.mem_of_getElem? (i := 6) rfl), rfl⟩, by decide +kernel, by decide⟩
theorem sm_v127 : sm_Vq (12, 227, 186, 1) := ⟨⟨sm_in6 (List.mem_of_getElem? (i := 180) rfl), rfl⟩, ⟨sm_in6 (List.mem_of_getElem? (i := 182) rfl), rfl⟩, ⟨sm_ip4 (List.mem_of_getElem? (i := 11) rfl), rfl⟩, by decide +kernel, by decide⟩
theorem sm_v128 : sm_Vq (12, 231, 183, 1) := ⟨⟨sm_in6 (List.mem_of_getElem? (i := 184) rfl), rfl⟩, ⟨sm_in6 (List.mem_of_getElem? (i := 186) rfl), rfl⟩, ⟨sm_ip4 (List.mem_of_getElem? (i := 12) rfl), rfl⟩, by decide +kernel, by decide⟩
theorem sm_v129 : sm_Vq (12, 234, 185, 2) := ⟨⟨sm_in6 (List.mem_of_getElem? (i := 170) rfl), rfl⟩, ⟨sm_in6 (List.mem_of_getElem? (i := 172) rfl), rfl⟩, ⟨sm_ip4 (List.mem_of_getElem? (i := 9) rfl), rfl⟩, by decide +kernel, by decide⟩
theorem sm_v130 : sm_Vq (12, 241, 187, 2) := ⟨⟨sm_in6 (List.mem_of_getElem? (i := 176) rfl), rfl⟩, ⟨sm_in6 (List.mem_of_getElem? (i := 178) rfl), rfl⟩, ⟨sm_ip4 (List.mem_of_getElem? (i := 10) rfl), rfl⟩, by decide +kernel, by decide⟩
theorem sm_v131 : sm_Vq (12, 244, 191, 1) := ⟨⟨sm_in6 (List.mem_of_getElem? (i := 203) rfl), rfl⟩, ⟨sm_in6 (List.mem_of_getElem? (i := 205) rfl), rfl⟩, ⟨sm_ip4 (List.mem_of_getElem? (i := 13) rfl), rfl⟩, by decide +kernel, by decide⟩
theorem sm_v132 : sm_Vq (12, 250, 195, 0) := ⟨⟨sm_in6 (List.mem_of_getElem? (i := 215) rfl), rfl⟩, ⟨sm_in6 (List.mem_of_getElem? (i := 217) rfl), rfl⟩, ⟨sm_ip4 (List.mem_of_getElem? (i := 14) rfl), rfl⟩, by decide +kernel, by decide⟩
theorem sm_v133 : sm_Vq (12, 256, 194, 1) := ⟨⟨sm_in6 (List.mem_of_getElem? (i := 222) rfl), rfl⟩, ⟨sm_in6 (List.mem_of_getElem? (i := 224) rfl), rfl⟩, ⟨sm_ip4 (List.mem_of_getElem? (i := 15) rfl), rfl⟩, by decide +kernel, by decide⟩
theorem sm_v134 : sm_Vq (12, 263, 198, 2) := ⟨⟨sm_in6 (List.mem_of_getElem? (i := 239) rfl), rfl⟩, ⟨sm_in7 (List.mem_of_getElem? (i := 1) rfl), rfl⟩, ⟨sm_ip5 (List.mem_of_getElem? (i := 0) rfl), rfl⟩, by decide +kernel, by decide⟩
theorem sm_v135 : sm_Vq (12, 269, 202, 3) := ⟨⟨sm_in7 (List.mem_of_getElem? (i := 11) rfl), rfl⟩, ⟨sm_in7 (List.mem_of_getElem? (i := 13) rfl), rfl⟩, ⟨sm_ip5 (List.mem_of_getElem? (i := 1) rfl), rfl⟩, by decide +kernel, by decide⟩
theorem sm_v136 : sm_Vq (12, 273, 201, 2) := ⟨⟨sm_in7 (List.mem_of_getElem? (i := 15) rfl), rfl⟩, ⟨sm_in7 (List.mem_of_getElem? (i := 17) rfl), rfl⟩, ⟨sm_ip5 (List.mem_of_getElem? (i := 2) rfl), rfl⟩, by decide +kernel, by decide⟩
theorem sm_v137 : sm_Vq (12, 276, 205, 1) := ⟨⟨sm_in7 (List.mem_of_getElem? (i := 27) rfl), rfl⟩, ⟨sm_in7 (List.mem_of_getElem? (i := 29) rfl), rfl⟩, ⟨sm_ip5 (List.mem_of_getElem? (i := 3) rfl), rfl⟩, by decide +kernel, by decide⟩
theorem sm_v138 : sm_Vq (12, 279, 206, 1) := ⟨⟨sm_in7 (List.mem_of_getElem? (i := 31) rfl), rfl⟩, ⟨sm_in7 (List.mem_of_getElem? (i := 33) rfl), rfl⟩, ⟨sm_ip5 (List.mem_of_getElem? (i := 4) rfl), rfl⟩, by decide +kernel, by decide⟩
theorem sm_v139 : sm_Vq (12, 284, 210, 3) := ⟨⟨sm_in7 (List.mem_of_getElem? (i := 48) rfl), rfl⟩, ⟨sm_in7 (List.mem_of_getElem? (i := 50) rfl), rfl⟩, ⟨sm_ip5 (List.mem_of_getElem? (i := 5) rfl), rfl⟩, by decide +kernel, by decide⟩
theorem sm_v140 : sm_Vq (12, 307, 223, 1) := ⟨⟨sm_in7 (List.mem_of_getElem? (i := 98) rfl), rfl⟩, ⟨sm_in7 (List.mem_of_getElem? (i := 100) rfl), rfl⟩, ⟨sm_ip5 (List.mem_of_getElem? (i := 8) rfl), rfl⟩, by decide +kernel, by decide⟩
theorem sm_v141 : sm_Vq (12, 310, 224, 2) := ⟨⟨sm_in7 (List.mem_of_getElem? (i := 94) rfl), rfl⟩, ⟨sm_in7 (List.mem_of_getElem? (i := 96) rfl), rfl⟩, ⟨sm_ip5 (List.mem_of_getElem? (i := 7) rfl), rfl⟩, by decide +kernel, by decide⟩
theorem sm_v142 : sm_Vq (12, 316, 225, 2) := ⟨⟨sm_in7 (List.mem_of_getElem? (i := 102) rfl), rfl⟩, ⟨sm_in7 (List.mem_of_getElem? (i := 104) rfl), rfl⟩, ⟨sm_ip5 (List.mem_of_getElem? (i := 9) rfl), rfl⟩, by decide +kernel, by decide⟩
theorem sm_v143 : sm_Vq (12, 322, 226, 2) := ⟨⟨sm_in7 (List.mem_of_getElem? (i := 106) rfl), rfl⟩, ⟨sm_in7 (List.mem_of_getElem? (i := 108) rfl), rfl⟩, ⟨sm_ip5 (List.mem_of_getElem? (i := 10) rfl), rfl⟩, by decide +kernel, by decide⟩
theorem sm_v144 : sm_Vq (12, 325, 227, 2) := ⟨⟨sm_in7 (List.mem_of_getElem? (i := 110) rfl), rfl⟩, ⟨sm_in7 (List.mem_of_getElem? (i := 112) rfl), rfl⟩, ⟨sm_ip5 (List.mem_of_getElem? (i := 11) rfl), rfl⟩, by decide +kernel, by decide⟩
theorem sm_v145 : sm_Vq (12, 328, 219, 1) := ⟨⟨sm_in7 (List.mem_of_getElem? (i := 90) rfl), rfl⟩, ⟨sm_in7 (List.mem_of_getElem? (i := 92) rfl), rfl⟩, ⟨sm_ip5 (List.mem_of_getElem? (i := 6) rfl), rfl⟩, by decide +kernel, by decide⟩
theorem sm_v146 : sm_Vq (12, 333, 233, 2) := ⟨⟨sm_in7 (List.mem_of_getElem? (i := 130) rfl), rfl⟩, ⟨sm_in7 (List.mem_of_getElem? (i := 132) rfl), rfl⟩, ⟨sm_ip5 (List.mem_of_getElem? (i := 12) rfl), rfl⟩, by decide +kernel, by decide⟩
theorem sm_v147 : sm_Vq (12, 344, 220, 1) := ⟨⟨sm_in7 (List.mem_of_getElem? (i := 150) rfl), rfl⟩, ⟨sm_in7 (List.mem_of_getElem? (i := 152) rfl), rfl⟩, ⟨sm_ip5 (List.mem_of_getElem? (i := 13) rfl), rfl⟩, by decide +kernel, by decide⟩
theorem sm_v148 : sm_Vq (13, 335, 244, 0) := ⟨⟨sm_in3 (List.mem_of_getElem? (i := 43) rfl), rfl⟩, ⟨sm_in3 (List.mem_of_getElem? (i := 44) rfl), rfl⟩, ⟨sm_in3 (List.mem_of_getElem? (i := 45) rfl), rfl⟩, by decide +kernel, by decide⟩
theorem sm_v149 : sm_Vq (13, 492, 245, 0) := ⟨⟨sm_in3 (List.mem_of_getElem? (i := 33) rfl), rfl⟩, ⟨sm_in3 (List.mem_of_getElem? (i := 34) rfl), rfl⟩, ⟨sm_in3 (List.mem_of_getElem? (i := 35) rfl), rfl⟩, by decide +kernel, by decide⟩
theorem sm_v150 : sm_Vq (13, 505, 241, 0) := ⟨⟨sm_in3 (List.mem_of_getElem? (i := 39) rfl), rfl⟩, ⟨sm_in3 (List.mem_of_getElem? (i := 40) rfl), rfl⟩, ⟨sm_in3 (List.mem_of_getElem? (i := 41) rfl), rfl⟩, by decide +kernel, by decide⟩
theorem sm_v151 : sm_Vq (13, 633, 243, 2) := ⟨⟨sm_in3 (List.mem_of_getElem? (i := 29) rfl), rfl⟩, ⟨sm_in3 (List.mem_of_getElem? (i := 30) rfl), rfl⟩, ⟨sm_in3 (List.mem_of_getElem? (i := 31) rfl), rfl⟩, by decide +kernel, by decide⟩
theorem sm_v152 : sm_Vq (14, 13, 84, 1) := ⟨⟨sm_in2 (List.mem_of_getElem? (i := 137) rfl), rfl⟩, ⟨sm_in2 (List.mem_of_getElem? (i := 138) rfl), rfl⟩, ⟨sm_in2 (List.mem_of_getElem? (i := 139) rfl), rfl⟩, by decide +kernel, by decide⟩
theorem sm_v153 : sm_Vq (14, 17, 157, 1) := ⟨⟨sm_in6 (List.mem_of_getElem? (i := 37) rfl), rfl⟩, ⟨sm_in6 (List.mem_of_getElem? (i := 38) rfl), rfl⟩, ⟨sm_in6 (List.mem_of_getElem? (i := 39) rfl), rfl⟩, by decide +kernel, by decide⟩
theorem sm_v154 : sm_Vq (14, 18, 85, 2) := ⟨⟨sm_in2 (List.mem_of_getElem? (i := 148) rfl), rfl⟩, ⟨sm_in2 (List.mem_of_getElem? (i := 149) rfl), rfl⟩, ⟨sm_in2 (List.mem_of_getElem? (i := 150) rfl), rfl⟩, by decide +kernel, by decide⟩
theorem sm_v155 : sm_Vq (14, 22, 160, 2) := ⟨⟨sm_in6 (List.mem_of_getElem? (i := 45) rfl), rfl⟩, ⟨sm_in6 (List.mem_of_getElem? (i := 46) rfl), rfl⟩, ⟨sm_in6 (List.mem_of_getElem? (i := 47) rfl), rfl⟩, by decide +kernel, by decide⟩
theorem sm_v156 : sm_Vq (14, 23, 86, 3) := ⟨⟨sm_in2 (List.mem_of_getElem? (i := 171) rfl), rfl⟩, ⟨sm_in2 (List.mem_of_getElem? (i := 172) rfl), rfl⟩, ⟨sm_in2 (List.mem_of_getElem? (i := 173) rfl), rfl⟩, by decide +kernel, by decide⟩
theorem sm_v157 : sm_Vq (14, 27, 161, 3) := ⟨⟨sm_in6 (List.mem_of_getElem? (i := 62) rfl), rfl⟩, ⟨sm_in6 (List.mem_of_getElem? (i := 63) rfl), rfl⟩, ⟨sm_in6 (List.mem_of_getElem? (i := 64) rfl), rfl⟩, by decide +kernel, by decide⟩
theorem sm_v158 : sm_Vq (14, 28, 87, 3) := ⟨⟨sm_in2 (List.mem_of_getElem? (i := 194) rfl), rfl⟩, ⟨sm_in2 (List.mem_of_getElem? (i := 195) rfl), rfl⟩, ⟨sm_in2 (List.mem_of_getElem? (i := 196) rfl), rfl⟩, by decide +kernel, by decide⟩
theorem sm_v159 : sm_Vq (14, 31, 164, 3) := ⟨⟨sm_in6 (List.mem_of_getElem? (i := 71) rfl), rfl⟩, ⟨sm_in6 (List.mem_of_getElem? (i := 72) rfl), rfl⟩, ⟨sm_in6 (List.mem_of_getElem? (i := 73) rfl), rfl⟩, by decide +kernel, by decide⟩
theorem sm_v160 : sm_Vq (14, 32, 88, 2) := ⟨⟨sm_in2 (List.mem_of_getElem? (i := 228) rfl), rfl⟩, ⟨sm_in2 (List.mem_of_getElem? (i := 229) rfl), rfl⟩, ⟨sm_in2 (List.mem_of_getElem? (i := 230) rfl), rfl⟩, by decide +kernel, by decide⟩
theorem sm_v161 : sm_Vq (14, 35, 165, 2) := ⟨⟨sm_in6 (List.mem_of_getElem? (i := 94) rfl), rfl⟩, ⟨sm_in6 (List.mem_of_getElem? (i := 95) rfl), rfl⟩, ⟨sm_in6 (List.mem_of_getElem? (i := 96) rfl), rfl⟩, by decide +kernel, by decide⟩
theorem sm_v162 : sm_Vq (14, 36, 89, 1) := ⟨⟨sm_in2 (List.mem_of_getElem? (i := 232) rfl), rfl⟩, ⟨sm_in2 (List.mem_of_getElem? (i := 233) rfl), rfl⟩, ⟨sm_in2 (List.mem_of_getElem? (i := 234) rfl), rfl⟩, by decide +kernel, by decide⟩
theorem sm_v163 : sm_Vq (14, 39, 166, 1) := ⟨⟨sm_in6 (List.mem_of_getElem? (i := 98) rfl), rfl⟩, ⟨sm_in6 (List.mem_of_getElem? (i := 99) rfl), rfl⟩, ⟨sm_in6 (List.mem_of_getElem? (i := 100) rfl), rfl⟩, by decide +kernel, by decide⟩
theorem sm_v164 : sm_Vq (14, 40, 90, 0) := ⟨⟨sm_in3 (List.mem_of_getElem? (i := 0) rfl), rfl⟩, ⟨sm_in3 (List.mem_of_getElem? (i := 1) rfl), rfl⟩, ⟨sm_in3 (List.mem_of_getElem? (i := 2) rfl), rfl⟩, by decide +kernel, by decide⟩
theorem sm_v165 : sm_Vq (14, 44, 178, 0) := ⟨⟨sm_in6 (List.mem_of_getElem? (i := 103) rfl), rfl⟩, ⟨sm_in6 (List.mem_of_getElem? (i := 104) rfl), rfl⟩, ⟨sm_in6 (List.mem_of_getElem? (i := 105) rfl), rfl⟩, by decide +kernel, by decide⟩
theorem sm_v166 : sm_Vq (14, 45, 91, 1) := ⟨⟨sm_in3 (List.mem_of_getElem? (i := 142) rfl), rfl⟩, ⟨sm_in3 (List.mem_of_getElem? (i := 143) rfl), rfl⟩, ⟨sm_in3 (List.mem_of_getElem? (i := 144) rfl), rfl⟩, by decide +kernel, by decide⟩
theorem sm_v167 : sm_Vq (14, 48, 184, 1) := ⟨⟨sm_in6 (List.mem_of_getElem? (i := 150) rfl), rfl⟩, ⟨sm_in6 (List.mem_of_getElem? (i := 151) rfl), rfl⟩, ⟨sm_in6 (List.mem_of_getElem? (i := 152) rfl), rfl⟩, by decide +kernel, by decide⟩
theorem sm_v168 : sm_Vq (14, 49, 92, 4) := ⟨⟨sm_in3 (List.mem_of_getElem? (i := 173) rfl), rfl⟩, ⟨sm_in3 (List.mem_of_getElem? (i := 174) rfl), rfl⟩, ⟨sm_in3 (List.mem_of_getElem? (i := 175) rfl), rfl⟩, by decide +kernel, by decide⟩
theorem sm_v169 : sm_Vq (14, 53, 188, 4) := ⟨⟨sm_in6 (List.mem_of_getElem? (i := 166) rfl), rfl⟩, ⟨sm_in6 (List.mem_of_getElem? (i := 167) rfl), rfl⟩, ⟨sm_in6 (List.mem_of_getElem? (i := 168) rfl), rfl⟩, by decide +kernel, by decide⟩
theorem sm_v170 : sm_Vq (14, 54, 93, 3) := ⟨⟨sm_in3 (List.mem_of_getElem? (i := 226) rfl), rfl⟩, ⟨sm_in3 (List.mem_of_getElem? (i := 227) rfl), rfl⟩, ⟨sm_in3 (List.mem_of_getElem? (i := 228) rfl), rfl⟩, by decide +kernel, by decide⟩
theorem sm_v171 : sm_Vq (14, 57, 189, 3) := ⟨⟨sm_in6 (List.mem_of_getElem? (i := 191) rfl), rfl⟩, ⟨sm_in6 (List.mem_of_getElem? (i := 192) rfl), rfl⟩, ⟨sm_in6 (List.mem_of_getElem? (i := 193) rfl), rfl⟩, by decide +kernel, by decide⟩
theorem sm_v172 : sm_Vq (14, 58, 94, 2) := ⟨⟨sm_in3 (List.mem_of_getElem? (i := 238) rfl), rfl⟩, ⟨sm_in3 (List.mem_of_getElem? (i := 239) rfl), rfl⟩, ⟨sm_in4 (List.mem_of_getElem? (i := 0) rfl), rfl⟩, by decide +kernel, by decide⟩
theorem sm_v173 : sm_Vq (14, 61, 190, 2) := ⟨⟨sm_in6 (List.mem_of_getElem? (i := 195) rfl), rfl⟩, ⟨sm_in6 (List.mem_of_getElem? (i := 196) rfl), rfl⟩, ⟨sm_in6 (List.mem_of_getElem? (i := 197) rfl), rfl⟩, by decide +kernel, by decide⟩
theorem sm_v174 : sm_Vq (14, 62, 95, 1) := ⟨⟨sm_in4 (List.mem_of_getElem? (i := 2) rfl), rfl⟩, ⟨sm_in4 (List.mem_of_getElem? (i := 3) rfl), rfl⟩, ⟨sm_in4 (List.mem_of_getElem? (i := 4) rfl), rfl⟩, by decide +kernel, by decide⟩
theorem sm_v175 : sm_Vq (14, 65, 192, 1) := ⟨⟨sm_in6 (List.mem_of_getElem? (i := 199) rfl), rfl⟩, ⟨sm_in6 (List.mem_of_getElem? (i := 200) rfl), rfl⟩, ⟨sm_in6 (List.mem_of_getElem? (i := 201) rfl), rfl⟩, by decide +kernel, by decide⟩
theorem sm_v176 : sm_Vq (14, 66, 96, 0) := ⟨⟨sm_in4 (List.mem_of_getElem? (i := 10) rfl), rfl⟩, ⟨sm_in4 (List.mem_of_getElem? (i := 11) rfl), rfl⟩, ⟨sm_in4 (List.mem_of_getElem? (i := 12) rfl), rfl⟩, by decide +kernel, by decide⟩
theorem sm_v177 : sm_Vq (14, 69, 193, 0) := ⟨⟨sm_in6 (List.mem_of_getElem? (i := 207) rfl), rfl⟩, ⟨sm_in6 (List.mem_of_getElem? (i := 208) rfl), rfl⟩, ⟨sm_in6 (List.mem_of_getElem? (i := 209) rfl), rfl⟩, by decide +kernel, by decide⟩
theorem sm_v178 : sm_Vq (14, 70, 97, 1) := ⟨⟨sm_in4 (List.mem_of_getElem? (i := 19) rfl), rfl⟩, ⟨sm_in4 (List.mem_of_getElem? (i := 20) rfl), rfl⟩, ⟨sm_in4 (List.mem_of_getElem? (i := 21) rfl), rfl⟩, by decide +kernel, by decide⟩
theorem sm_v179 : sm_Vq (14, 73, 196, 1) := ⟨⟨sm_in6 (List.mem_of_getElem? (i := 211) rfl), rfl⟩, ⟨sm_in6 (List.mem_of_getElem? (i := 212) rfl), rfl⟩, ⟨sm_in6 (List.mem_of_getElem? (i := 213) rfl), rfl⟩, by decide +kernel, by decide⟩
theorem sm_v180 : sm_Vq (14, 74, 98, 0) := ⟨⟨sm_in4 (List.mem_of_getElem? (i := 43) rfl), rfl⟩, ⟨sm_in4 (List.mem_of_getElem? (i := 44) rfl), rfl⟩, ⟨sm_in4 (List.mem_of_getElem? (i := 45) rfl), rfl⟩, by decide +kernel, by decide⟩
theorem sm_v181 : sm_Vq (14, 77, 197, 0) := ⟨⟨sm_in6 (List.mem_of_getElem? (i := 230) rfl), rfl⟩, ⟨sm_in6 (List.mem_of_getElem? (i := 231) rfl), rfl⟩, ⟨sm_in6 (List.mem_of_getElem? (i := 232) rfl), rfl⟩, by decide +kernel, by decide⟩
theorem sm_v182 : sm_Vq (14, 78, 99, 2) := ⟨⟨sm_in4 (List.mem_of_getElem? (i := 61) rfl), rfl⟩, ⟨sm_in4 (List.mem_of_getElem? (i := 62) rfl), rfl⟩, ⟨sm_in4 (List.mem_of_getElem? (i := 63) rfl), rfl⟩, by decide +kernel, by decide⟩
theorem sm_v183 : sm_Vq (14, 81, 199, 2) := ⟨⟨sm_in6 (List.mem_of_getElem? (i := 234) rfl), rfl⟩, ⟨sm_in6 (List.mem_of_getElem? (i := 235) rfl), rfl⟩, ⟨sm_in6 (List.mem_of_getElem? (i := 236) rfl), rfl⟩, by decide +kernel, by decide⟩
theorem sm_v184 : sm_Vq (14, 82, 100, 1) := ⟨⟨sm_in4 (List.mem_of_getElem? (i := 84) rfl), rfl⟩, ⟨sm_in4 (List.mem_of_getElem? (i := 85) rfl), rfl⟩, ⟨sm_in4 (List.mem_of_getElem? (i := 86) rfl), rfl⟩, by decide +kernel, by decide⟩
theorem sm_v185 : sm_Vq (14, 85, 200, 1) := ⟨⟨sm_in7 (List.mem_of_getElem? (i := 3) rfl), rfl⟩, ⟨sm_in7 (List.mem_of_getElem? (i := 4) rfl), rfl⟩, ⟨sm_in7 (List.mem_of_getElem? (i := 5) rfl), rfl⟩, by decide +kernel, by decide⟩
theorem sm_v186 : sm_Vq (14, 86, 101, 1) := ⟨⟨sm_in4 (List.mem_of_getElem? (i := 94) rfl), rfl⟩, ⟨sm_in4 (List.mem_of_getElem? (i := 95) rfl), rfl⟩, ⟨sm_in4 (List.mem_of_getElem? (i := 96) rfl), rfl⟩, by decide +kernel, by decide⟩
theorem sm_v187 : sm_Vq (14, 89, 203, 1) := ⟨⟨sm_in7 (List.mem_of_getElem? (i := 7) rfl), rfl⟩, ⟨sm_in7 (List.mem_of_getElem? (i := 8) rfl), rfl⟩, ⟨sm_in7 (List.mem_of_getElem? (i := 9) rfl), rfl⟩, by decide +kernel, by decide⟩
theorem sm_v188 : sm_Vq (14, 90, 102, 1) := ⟨⟨sm_in4 (List.mem_of_getElem? (i := 128) rfl), rfl⟩, ⟨sm_in4 (List.mem_of_getElem? (i := 129) rfl), rfl⟩, ⟨sm_in4 (List.mem_of_getElem? (i := 130) rfl), rfl⟩, by decide +kernel, by decide⟩
theorem sm_v189 : sm_Vq (14, 93, 204, 1) := ⟨⟨sm_in7 (List.mem_of_getElem? (i := 19) rfl), rfl⟩, ⟨sm_in7 (List.mem_of_getElem? (i := 20) rfl), rfl⟩, ⟨sm_in7 (List.mem_of_getElem? (i := 21) rfl), rfl⟩, by decide +kernel, by decide⟩
theorem sm_v190 : sm_Vq (14, 94, 103, 1) := ⟨⟨sm_in4 (List.mem_of_getElem? (i := 133) rfl), rfl⟩, ⟨sm_in4 (List.mem_of_getElem? (i := 134) rfl), rfl⟩, ⟨sm_in4 (List.mem_of_getElem? (i := 135) rfl), rfl⟩, by decide +kernel, by decide⟩
theorem sm_v191 : sm_Vq (14, 97, 207, 1) := ⟨⟨sm_in7 (List.mem_of_getElem? (i := 23) rfl), rfl⟩, ⟨sm_in7 (List.mem_of_getElem? (i := 24) rfl), rfl⟩, ⟨sm_in7 (List.mem_of_getElem? (i := 25) rfl), rfl⟩, by decide +kernel, by decide⟩
theorem sm_v192 : sm_Vq (14, 98, 104, 3) := ⟨⟨sm_in4 (List.mem_of_getElem? (i := 148) rfl), rfl⟩, ⟨sm_in4 (List.mem_of_getElem? (i := 149) rfl), rfl⟩, ⟨sm_in4 (List.mem_of_getElem? (i := 150) rfl), rfl⟩, by decide +kernel, by decide⟩
theorem sm_v193 : sm_Vq (14, 101, 208, 3) := ⟨⟨sm_in7 (List.mem_of_getElem? (i := 35) rfl), rfl⟩, ⟨sm_in7 (List.mem_of_getElem? (i := 36) rfl), rfl⟩, ⟨sm_in7 (List.mem_of_getElem? (i := 37) rfl), rfl⟩, by decide +kernel, by decide⟩
theorem sm_v194 : sm_Vq (14, 102, 105, 3) := ⟨⟨sm_in4 (List.mem_of_getElem? (i := 156) rfl), rfl⟩, ⟨sm_in4 (List.mem_of_getElem? (i := 157) rfl), rfl⟩, ⟨sm_in4 (List.mem_of_getElem? (i := 158) rfl), rfl⟩, by decide +kernel, by decide⟩
theorem sm_v195 : sm_Vq (14, 105, 209, 3) := ⟨⟨sm_in7 (List.mem_of_getElem? (i := 40) rfl), rfl⟩, ⟨sm_in7 (List.mem_of_getElem? (i := 41) rfl), rfl⟩, ⟨sm_in7 (List.mem_of_getElem? (i := 42) rfl), rfl⟩, by decide +kernel, by decide⟩
theorem sm_v196 : sm_Vq (14, 106, 106, 3) := ⟨⟨sm_in4 (List.mem_of_getElem? (i := 169) rfl), rfl⟩, ⟨sm_in4 (List.mem_of_getElem? (i := 170) rfl), rfl⟩, ⟨sm_in4 (List.mem_of_getElem? (i := 171) rfl), rfl⟩, by decide +kernel, by decide⟩
theorem sm_v197 : sm_Vq (14, 109, 211, 3) := ⟨⟨sm_in7 (List.mem_of_getElem? (i := 44) rfl), rfl⟩, ⟨sm_in7 (List.mem_of_getElem? (i := 45) rfl), rfl⟩, ⟨sm_in7 (List.mem_of_getElem? (i := 46) rfl), rfl⟩, by decide +kernel, by decide⟩
theorem sm_v198 : sm_Vq (14, 110, 107, 3) := ⟨⟨sm_in4 (List.mem_of_getElem? (i := 179) rfl), rfl⟩, ⟨sm_in4 (List.mem_of_getElem? (i := 180) rfl), rfl⟩, ⟨sm_in4 (List.mem_of_getElem? (i := 181) rfl), rfl⟩, by decide +kernel, by decide⟩
theorem sm_v199 : sm_Vq (14, 113, 212, 3) := ⟨⟨sm_in7 (List.mem_of_getElem? (i := 52) rfl), rfl⟩, ⟨sm_in7 (List.mem_of_getElem? (i := 53) rfl), rfl⟩, ⟨sm_in7 (List.mem_of_getElem? (i := 54) rfl), rfl⟩, by decide +kernel, by decide⟩
theorem sm_v200 : sm_Vq (14, 114, 108, 1) := ⟨⟨sm_in4 (List.mem_of_getElem? (i := 188) rfl), rfl⟩, ⟨sm_in4 (List.mem_of_getElem? (i := 189) rfl), rfl⟩, ⟨sm_in4 (List.mem_of_getElem? (i := 190) rfl), rfl⟩, by decide +kernel, by decide⟩
theorem sm_v201 : sm_Vq (14, 117, 213, 1) := ⟨⟨sm_in7 (List.mem_of_getElem? (i := 58) rfl), rfl⟩, ⟨sm_in7 (List.mem_of_getElem? (i := 59) rfl), rfl⟩, ⟨sm_in7 (List.mem_of_getElem? (i := 60) rfl), rfl⟩, by decide +kernel, by decide⟩
theorem sm_v202 : sm_Vq (14, 118, 109, 2) := ⟨⟨sm_in4 (List.mem_of_getElem? (i := 192) rfl), rfl⟩, ⟨sm_in4 (List.mem_of_getElem? (i := 193) rfl), rfl⟩, ⟨sm_in4 (List.mem_of_getElem? (i := 194) rfl), rfl⟩, by decide +kernel, by decide⟩
theorem sm_v203 : sm_Vq (14, 121, 214, 2) := ⟨⟨sm_in7 (List.mem_of_getElem? (i := 62) rfl), rfl⟩, ⟨sm_in7 (List.mem_of_getElem? (i := 63) rfl), rfl⟩, ⟨sm_in7 (List.mem_of_getElem? (i := 64) rfl), rfl⟩, by decide +kernel, by decide⟩
theorem sm_v204 : sm_Vq (14, 122, 110, 1) := ⟨⟨sm_in4 (List.mem_of_getElem? (i := 196) rfl), rfl⟩, ⟨sm_in4 (List.mem_of_getElem? (i := 197) rfl), rfl⟩, ⟨sm_in4 (List.mem_of_getElem? (i := 198) rfl), rfl⟩, by decide +kernel, by decide⟩
theorem sm_v205 : sm_Vq (14, 125, 215, 1) := ⟨⟨sm_in7 (List.mem_of_getElem? (i := 66) rfl), rfl⟩, ⟨sm_in7 (List.mem_of_getElem? (i := 67) rfl), rfl⟩, ⟨sm_in7 (List.mem_of_getElem? (i := 68) rfl), rfl⟩, by decide +kernel, by decide⟩
theorem sm_v206 : sm_Vq (14, 126, 111, 1) := ⟨⟨sm_in4 (List.mem_of_getElem? (i := 200) rfl), rfl⟩, ⟨sm_in4 (List.mem_of_getElem? (i := 201) rfl), rfl⟩, ⟨sm_in4 (List.mem_of_getElem? (i := 202) rfl), rfl⟩, by decide +kernel, by decide⟩
theorem sm_v207 : sm_Vq (14, 129, 216, 1) := ⟨⟨sm_in7 (List.mem_of_getElem? (i := 70) rfl), rfl⟩, ⟨sm_in7 (List.mem_of_getElem? (i := 71) rfl), rfl⟩, ⟨sm_in7 (List.mem_of_getElem? (i := 72) rfl), rfl⟩, by decide +kernel, by decide⟩
theorem sm_v208 : sm_Vq (14, 130, 112, 0) := ⟨⟨sm_in4 (List.mem_of_getElem? (i := 204) rfl), rfl⟩, ⟨sm_in4 (List.mem_of_getElem? (i := 205) rfl), rfl⟩, ⟨sm_in4 (List.mem_of_getElem? (i := 206) rfl), rfl⟩, by decide +kernel, by decide⟩
theorem sm_v209 : sm_Vq (14, 133, 217, 0) := ⟨⟨sm_in7 (List.mem_of_getElem? (i := 74) rfl), rfl⟩, ⟨sm_in7 (List.mem_of_getElem? (i := 75) rfl), rfl⟩, ⟨sm_in7 (List.mem_of_getElem? (i := 76) rfl), rfl⟩, by decide +kernel, by decide⟩
theorem sm_v210 : sm_Vq (14, 134, 113, 0) := ⟨⟨sm_in4 (List.mem_of_getElem? (i := 214) rfl), rfl⟩, ⟨sm_in4 (List.mem_of_getElem? (i := 215) rfl), rfl⟩, ⟨sm_in4 (List.mem_of_getElem? (i := 216) rfl), rfl⟩, by decide +kernel, by decide⟩
theorem sm_v211 : sm_Vq (14, 137, 218, 0) := ⟨⟨sm_in7 (List.mem_of_getElem? (i := 78) rfl), rfl⟩, ⟨sm_in7 (List.mem_of_getElem? (i := 79) rfl), rfl⟩, ⟨sm_in7 (List.mem_of_getElem? (i := 80) rfl), rfl⟩, by decide +kernel, by decide⟩
theorem sm_v212 : sm_Vq (14, 138, 114, 0) := ⟨⟨sm_in4 (List.mem_of_getElem? (i := 223) rfl), rfl⟩, ⟨sm_in4 (List.mem_of_getElem? (i := 224) rfl), rfl⟩, ⟨sm_in4 (List.mem_of_getElem? (i := 225) rfl), rfl⟩, by decide +kernel, by decide⟩
theorem sm_v213 : sm_Vq (14, 141, 153, 0) := ⟨⟨sm_in6 (List.mem_of_getElem? (i := 29) rfl), rfl⟩, ⟨sm_in6 (List.mem_of_getElem? (i := 30) rfl), rfl⟩, ⟨sm_in6 (List.mem_of_getElem? (i := 31) rfl), rfl⟩, by decide +kernel, by decide⟩
theorem sm_v214 : sm_Vq (14, 142, 115, 0) := ⟨⟨sm_in4 (List.mem_of_getElem? (i := 231) rfl), rfl⟩, ⟨sm_in4 (List.mem_of_getElem? (i := 232) rfl), rfl⟩, ⟨sm_in4 (List.mem_of_getElem? (i := 233) rfl), rfl⟩, by decide +kernel, by decide⟩
theorem sm_v215 : sm_Vq (14, 145, 154, 0) := ⟨⟨sm_in6 (List.mem_of_getElem? (i := 33) rfl), rfl⟩, ⟨sm_in6 (List.mem_of_getElem? (i := 34) rfl), rfl⟩, ⟨sm_in6 (List.mem_of_getElem? (i := 35) rfl), rfl⟩, by decide +kernel, by decide⟩
theorem sm_v216 : sm_Vq (14, 146, 116, 1) := ⟨⟨sm_in4 (List.mem_of_getElem? (i := 239) rfl), rfl⟩, ⟨sm_in5 (List.mem_of_getElem? (i := 0) rfl), rfl⟩, ⟨sm_in5 (List.mem_of_getElem? (i := 1) rfl), rfl⟩, by decide +kernel, by decide⟩
theorem sm_v217 : sm_Vq (14, 149, 221, 1) := ⟨⟨sm_in7 (List.mem_of_getElem? (i := 82) rfl), rfl⟩, ⟨sm_in7 (List.mem_of_getElem? (i := 83) rfl), rfl⟩, ⟨sm_in7 (List.mem_of_getElem? (i := 84) rfl), rfl⟩, by decide +kernel, by decide⟩
theorem sm_v218 : sm_Vq (14, 150, 117, 3) := ⟨⟨sm_in5 (List.mem_of_getElem? (i := 7) rfl), rfl⟩, ⟨sm_in5 (List.mem_of_getElem? (i := 8) rfl), rfl⟩, ⟨sm_in5 (List.mem_of_getElem? (i := 9) rfl), rfl⟩, by decide +kernel, by decide⟩
theorem sm_v219 : sm_Vq (14, 153, 228, 3) := ⟨⟨sm_in7 (List.mem_of_getElem? (i := 86) rfl), rfl⟩, ⟨sm_in7 (List.mem_of_getElem? (i := 87) rfl), rfl⟩, ⟨sm_in7 (List.mem_of_getElem? (i := 88) rfl), rfl⟩, by decide +kernel, by decide⟩
theorem sm_v220 : sm_Vq (14, 154, 118, 1) := ⟨⟨sm_in5 (List.mem_of_getElem? (i := 43) rfl), rfl⟩, ⟨sm_in5 (List.mem_of_getElem? (i := 44) rfl), rfl⟩, ⟨sm_in5 (List.mem_of_getElem? (i := 45) rfl), rfl⟩, by decide +kernel, by decide⟩
theorem sm_v221 : sm_Vq (14, 157, 229, 1) := ⟨⟨sm_in7 (List.mem_of_getElem? (i := 114) rfl), rfl⟩, ⟨sm_in7 (List.mem_of_getElem? (i := 115) rfl), rfl⟩, ⟨sm_in7 (List.mem_of_getElem? (i := 116) rfl), rfl⟩, by decide +kernel, by decide⟩
theorem sm_v222 : sm_Vq (14, 158, 119, 2) := ⟨⟨sm_in5 (List.mem_of_getElem? (i := 52) rfl), rfl⟩, ⟨sm_in5 (List.mem_of_getElem? (i := 53) rfl), rfl⟩, ⟨sm_in5 (List.mem_of_getElem? (i := 54) rfl), rfl⟩, by decide +kernel, by decide⟩
theorem sm_v223 : sm_Vq (14, 161, 231, 2) := ⟨⟨sm_in7 (List.mem_of_getElem? (i := 118) rfl), rfl⟩, ⟨sm_in7 (List.mem_of_getElem? (i := 119) rfl), rfl⟩, ⟨sm_in7 (List.mem_of_getElem? (i := 120) rfl), rfl⟩, by decide +kernel, by decide⟩
theorem sm_v224 : sm_Vq (14, 162, 120, 3) := ⟨⟨sm_in5 (List.mem_of_getElem? (i := 61) rfl), rfl⟩, ⟨sm_in5 (List.mem_of_getElem? (i := 62) rfl), rfl⟩, ⟨sm_in5 (List.mem_of_getElem? (i := 63) rfl), rfl⟩, by decide +kernel, by decide⟩
theorem sm_v225 : sm_Vq (14, 165, 232, 3) := ⟨⟨sm_in7 (List.mem_of_getElem? (i := 122) rfl), rfl⟩, ⟨sm_in7 (List.mem_of_getElem? (i := 123) rfl), rfl⟩, ⟨sm_in7 (List.mem_of_getElem? (i := 124) rfl), rfl⟩, by decide +kernel, by decide⟩
theorem sm_v226 : sm_Vq (14, 168, 121, 3) := ⟨⟨sm_in5 (List.mem_of_getElem? (i := 74) rfl), rfl⟩, ⟨sm_in5 (List.mem_of_getElem? (i := 75) rfl), rfl⟩, ⟨sm_in5 (List.mem_of_getElem? (i := 76) rfl), rfl⟩, by decide +kernel, by decide⟩
theorem sm_v227 : sm_Vq (14, 172, 235, 3) := ⟨⟨sm_in7 (List.mem_of_getElem? (i := 126) rfl), rfl⟩, ⟨sm_in7 (List.mem_of_getElem? (i := 127) rfl), rfl⟩, ⟨sm_in7 (List.mem_of_getElem? (i := 128) rfl), rfl⟩, by decide +kernel, by decide⟩
theorem sm_v228 : sm_Vq (14, 173, 122, 2) := ⟨⟨sm_in5 (List.mem_of_getElem? (i := 91) rfl), rfl⟩, ⟨sm_in5 (List.mem_of_getElem? (i := 92) rfl), rfl⟩, ⟨sm_in5 (List.mem_of_getElem? (i := 93) rfl), rfl⟩, by decide +kernel, by decide⟩
theorem sm_v229 : sm_Vq (14, 177, 236, 2) := ⟨⟨sm_in7 (List.mem_of_getElem? (i := 137) rfl), rfl⟩, ⟨sm_in7 (List.mem_of_getElem? (i := 138) rfl), rfl⟩, ⟨sm_in7 (List.mem_of_getElem? (i := 139) rfl), rfl⟩, by decide +kernel, by decide⟩
theorem sm_v230 : sm_Vq (14, 178, 123, 5) := ⟨⟨sm_in5 (List.mem_of_getElem? (i := 96) rfl), rfl⟩, ⟨sm_in5 (List.mem_of_getElem? (i := 97) rfl), rfl⟩, ⟨sm_in5 (List.mem_of_getElem? (i := 98) rfl), rfl⟩, by decide +kernel, by decide⟩
theorem sm_v231 : sm_Vq (14, 182, 237, 5) := ⟨⟨sm_in7 (List.mem_of_getElem? (i := 142) rfl), rfl⟩, ⟨sm_in7 (List.mem_of_getElem? (i := 143) rfl), rfl⟩, ⟨sm_in7 (List.mem_of_getElem? (i := 144) rfl), rfl⟩, by decide +kernel, by decide⟩
theorem sm_v232 : sm_Vq (14, 183, 124, 2) := ⟨⟨sm_in5 (List.mem_of_getElem? (i := 101) rfl), rfl⟩, ⟨sm_in5 (List.mem_of_getElem? (i := 102) rfl), rfl⟩, ⟨sm_in5 (List.mem_of_getElem? (i := 103) rfl), rfl⟩, by decide +kernel, by decide⟩
theorem sm_v233 : sm_Vq (14, 186, 238, 2) := ⟨⟨sm_in7 (List.mem_of_getElem? (i := 146) rfl), rfl⟩, ⟨sm_in7 (List.mem_of_getElem? (i := 147) rfl), rfl⟩, ⟨sm_in7 (List.mem_of_getElem? (i := 148) rfl), rfl⟩, by decide +kernel, by decide⟩
theorem sm_v234 : sm_Vq (14, 187, 125, 1) := ⟨⟨sm_in5 (List.mem_of_getElem? (i := 114) rfl), rfl⟩, ⟨sm_in5 (List.mem_of_getElem? (i := 115) rfl), rfl⟩, ⟨sm_in5 (List.mem_of_getElem? (i := 116) rfl), rfl⟩, by decide +kernel, by decide⟩
theorem sm_v235 : sm_Vq (14, 190, 239, 1) := ⟨⟨sm_in7 (List.mem_of_getElem? (i := 157) rfl), rfl⟩, ⟨sm_in7 (List.mem_of_getElem? (i := 158) rfl), rfl⟩, ⟨sm_in7 (List.mem_of_getElem? (i := 159) rfl), rfl⟩, by decide +kernel, by decide⟩
set_option maxRecDepth 100000 in
theorem sm_c_MV : ∀ q ∈ sm_MV, sm_Vq q := List.forall_mem_cons.mpr ⟨sm_v0, List.forall_mem_cons.mpr ⟨sm_v1, List.forall_mem_cons.mpr ⟨sm_v2, List.forall_mem_cons.mpr ⟨sm_v3, List.forall_mem_cons.mpr ⟨sm_v4, List.forall_mem_cons.mpr ⟨sm_v5, List.forall_mem_cons.mpr ⟨sm_v6, List.forall_mem_cons.mpr ⟨sm_v7, List.forall_mem_cons.mpr ⟨sm_v8, List.forall_mem_cons.mpr ⟨sm_v9, List.forall_mem_cons.mpr ⟨sm_v10, List.forall_mem_cons.mpr ⟨sm_v11, List.forall_mem_cons.mpr ⟨sm_v12, List.forall_mem_cons.mpr ⟨sm_v13, List.forall_mem_cons.mpr ⟨sm_v14, List.forall_mem_cons.mpr ⟨sm_v15, List.forall_mem_cons.mpr ⟨sm_v16, List.forall_mem_cons.mpr ⟨sm_v17, List.forall_mem_cons.mpr ⟨sm_v18, List.forall_mem_cons.mpr ⟨sm_v19, List.forall_mem_cons.mpr ⟨sm_v20, List.forall_mem_cons.mpr ⟨sm_v21, List.forall_mem_cons.mpr ⟨sm_v22, List.forall_mem_cons.mpr ⟨sm_v23, List.forall_mem_cons.mpr ⟨sm_v24, List.forall_mem_cons.mpr ⟨sm_v25, List.forall_mem_cons.mpr ⟨sm_v26, List.forall_mem_cons.mpr ⟨sm_v27, List.forall_mem_cons.mpr ⟨sm_v28, List.forall_mem_cons.mpr ⟨sm_v29, List.forall_mem_cons.mpr ⟨sm_v30, List.forall_mem_cons.mpr ⟨sm_v31, List.forall_mem_cons.mpr ⟨sm_v32, List.forall_mem_cons.mpr ⟨sm_v33, List.forall_mem_cons.mpr ⟨sm_v34, List.forall_mem_cons.mpr ⟨sm_v35, List.forall_mem_cons.mpr ⟨sm_v36, List.forall_mem_cons.mpr ⟨sm_v37, List.forall_mem_cons.mpr ⟨sm_v38, List.forall_mem_cons.mpr ⟨sm_v39, List.forall_mem_cons.mpr ⟨sm_v40, List.forall_mem_cons.mpr ⟨sm_v41, List.forall_mem_cons.mpr ⟨sm_v42, List.forall_mem_cons.mpr ⟨sm_v43, List.forall_mem_cons.mpr ⟨sm_v44, List.forall_mem_cons.mpr ⟨sm_v45, List.forall_mem_cons.mpr ⟨sm_v46, List.forall_mem_cons.mpr ⟨sm_v47, List.forall_mem_cons.mpr ⟨sm_v48, List.forall_mem_cons.mpr ⟨sm_v49, List.forall_mem_cons.mpr ⟨sm_v50, List.forall_mem_cons.mpr ⟨sm_v51, List.forall_mem_cons.mpr ⟨sm_v52, List.forall_mem_cons.mpr ⟨sm_v53, List.forall_mem_cons.mpr ⟨sm_v54, List.forall_mem_cons.mpr ⟨sm_v55, List.forall_mem_cons.mpr ⟨sm_v56, List.forall_mem_cons.mpr ⟨sm_v57, List.forall_mem_cons.mpr ⟨sm_v58, List.forall_mem_cons.mpr ⟨sm_v59, List.forall_mem_cons.mpr ⟨sm_v60, List.forall_mem_cons.mpr ⟨sm_v61, List.forall_mem_cons.mpr ⟨sm_v62, List.forall_mem_cons.mpr ⟨sm_v63, List.forall_mem_cons.mpr ⟨sm_v64, List.forall_mem_cons.mpr ⟨sm_v65, List.forall_mem_cons.mpr ⟨sm_v66, List.forall_mem_cons.mpr ⟨sm_v67, List.forall_mem_cons.mpr ⟨sm_v68, List.forall_mem_cons.mpr ⟨sm_v69, List.forall_mem_cons.mpr ⟨sm_v70, List.forall_mem_cons.mpr ⟨sm_v71, List.forall_mem_cons.mpr ⟨sm_v72, List.forall_mem_cons.mpr ⟨sm_v73, List.forall_mem_cons.mpr ⟨sm_v74, List.forall_mem_cons.mpr ⟨sm_v75, List.forall_mem_cons.mpr ⟨sm_v76, List.forall_mem_cons.mpr ⟨sm_v77, List.forall_mem_cons.mpr ⟨sm_v78, List.forall_mem_cons.mpr ⟨sm_v79, List.forall_mem_cons.mpr ⟨sm_v80, List.forall_mem_cons.mpr ⟨sm_v81, List.forall_mem_cons.mpr ⟨sm_v82, List.forall_mem_cons.mpr ⟨sm_v83, List.forall_mem_cons.mpr ⟨sm_v84, List.forall_mem_cons.mpr ⟨sm_v85, List.forall_mem_cons.mpr ⟨sm_v86, List.forall_mem_cons.mpr ⟨sm_v87, List.forall_mem_cons.mpr ⟨sm_v88, List.forall_mem_cons.mpr ⟨sm_v89, List.forall_mem_cons.mpr ⟨sm_v90, List.forall_mem_cons.mpr ⟨sm_v91, List.forall_mem_cons.mpr ⟨sm_v92, List.forall_mem_cons.mpr ⟨sm_v93, List.forall_mem_cons.mpr ⟨sm_v94, List.forall_mem_cons.mpr ⟨sm_v95, List.forall_mem_cons.mpr ⟨sm_v96, List.forall_mem_cons.mpr ⟨sm_v97, List.forall_mem_cons.mpr ⟨sm_v98, List.forall_mem_cons.mpr ⟨sm_v99, List.forall_mem_cons.mpr ⟨sm_v100, List.forall_mem_cons.mpr ⟨sm_v101, List.forall_mem_cons.mpr ⟨sm_v102, List.forall_mem_cons.mpr ⟨sm_v103, List.forall_mem_cons.mpr ⟨sm_v104, List.forall_mem_cons.mpr ⟨sm_v105, List.forall_mem_cons.mpr ⟨sm_v106, List.forall_mem_cons.mpr ⟨sm_v107, List.forall_mem_cons.mpr ⟨sm_v108, List.forall_mem_cons.mpr ⟨sm_v109, List.forall_mem_cons.mpr ⟨sm_v110, List.forall_mem_cons.mpr ⟨sm_v111, List.forall_mem_cons.mpr ⟨sm_v112, List.forall_mem_cons.mpr ⟨sm_v113, List.forall_mem_cons.mpr ⟨sm_v114, List.forall_mem_cons.mpr ⟨sm_v115, List.forall_mem_cons.mpr ⟨sm_v116, List.forall_mem_cons.mpr ⟨sm_v117, List.forall_mem_cons.mpr ⟨sm_v118, List.forall_mem_cons.mpr ⟨sm_v119, List.forall_mem_cons.mpr ⟨sm_v120, List.forall_mem_cons.mpr ⟨sm_v121, List.forall_mem_cons.mpr ⟨sm_v122, List.forall_mem_cons.mpr ⟨sm_v123, List.forall_mem_cons.mpr ⟨sm_v124, List.forall_mem_cons.mpr ⟨sm_v125, List.forall_mem_cons.mpr ⟨sm_v126, List.forall_mem_cons.mpr ⟨sm_v127, List.forall_mem_cons.mpr ⟨sm_v128, List.forall_mem_cons.mpr ⟨sm_v129, List.forall_mem_cons.mpr ⟨sm_v130, List.forall_mem_cons.mpr ⟨sm_v131, List.forall_mem_cons.mpr ⟨sm_v132, List.forall_mem_cons.mpr ⟨sm_v133, List.forall_mem_cons.mpr ⟨sm_v134, List.forall_mem_cons.mpr ⟨sm_v135, List.forall_mem_cons.mpr ⟨sm_v136, List.forall_mem_cons.mpr ⟨sm_v137, List.forall_mem_cons.mpr ⟨sm_v138, List.forall_mem_cons.mpr ⟨sm_v139, List.forall_mem_cons.mpr ⟨sm_v140, List.forall_mem_cons.mpr ⟨sm_v141, List.forall_mem_cons.mpr ⟨sm_v142, List.forall_mem_cons.mpr ⟨sm_v143, List.forall_mem_cons.mpr ⟨sm_v144, List.forall_mem_cons.mpr ⟨sm_v145, List.forall_mem_cons.mpr ⟨sm_v146, List.forall_mem_cons.mpr ⟨sm_v147, List.forall_mem_cons.mpr ⟨sm_v148, List.forall_mem_cons.mpr ⟨sm_v149, List.forall_mem_cons.mpr ⟨sm_v150, List.forall_mem_cons.mpr ⟨sm_v151, List.forall_mem_cons.mpr ⟨sm_v152, List.forall_mem_cons.mpr ⟨sm_v153, List.forall_mem_cons.mpr ⟨sm_v154, List.forall_mem_cons.mpr ⟨sm_v155, List.forall_mem_cons.mpr ⟨sm_v156, List.forall_mem_cons.mpr ⟨sm_v157, List.forall_mem_cons.mpr ⟨sm_v158, List.forall_mem_cons.mpr ⟨sm_v159, List.forall_mem_cons.mpr ⟨sm_v160, List.forall_mem_cons.mpr ⟨sm_v161, List.forall_mem_cons.mpr ⟨sm_v162, List.forall_mem_cons.mpr ⟨sm_v163, List.forall_mem_cons.mpr ⟨sm_v164, List.forall_mem_cons.mpr ⟨sm_v165, List.forall_mem_cons.mpr ⟨sm_v166, List.forall_mem_cons.mpr ⟨sm_v167, List.forall_mem_cons.mpr ⟨sm_v168, List.forall_mem_cons.mpr ⟨sm_v169, List.forall_mem_cons.mpr ⟨sm_v170, List.forall_mem_cons.mpr ⟨sm_v171, List.forall_mem_cons.mpr ⟨sm_v172, List.forall_mem_cons.mpr ⟨sm_v173, List.forall_mem_cons.mpr ⟨sm_v174, List.forall_mem_cons.mpr ⟨sm_v175, List.forall_mem_cons.mpr ⟨sm_v176, List.forall_mem_cons.mpr ⟨sm_v177, List.forall_mem_cons.mpr ⟨sm_v178, List.forall_mem_cons.mpr ⟨sm_v179, List.forall_mem_cons.mpr ⟨sm_v180, List.forall_mem_cons.mpr ⟨sm_v181, List.forall_mem_cons.mpr ⟨sm_v182, List.forall_mem_cons.mpr ⟨sm_v183, List.forall_mem_cons.mpr ⟨sm_v184, List.forall_mem_cons.mpr ⟨sm_v185, List.forall_mem_cons.mpr ⟨sm_v186, List.forall_mem_cons.mpr ⟨sm_v187, List.forall_mem_cons.mpr ⟨sm_v188, List.forall_mem_cons.mpr ⟨sm_v189, List.forall_mem_cons.mpr ⟨sm_v190, List.forall_mem_cons.mpr ⟨sm_v191, List.forall_mem_cons.mpr ⟨sm_v192, List.forall_mem_cons.mpr ⟨sm_v193, List.forall_mem_cons.mpr ⟨sm_v194, List.forall_mem_cons.mpr ⟨sm_v195, List.forall_mem_cons.mpr ⟨sm_v196, List.forall_mem_cons.mpr ⟨sm_v197, List.forall_mem_cons.mpr ⟨sm_v198, List.forall_mem_cons.mpr ⟨sm_v199, List.forall_mem_cons.mpr ⟨sm_v200, List.forall_mem_cons.mpr ⟨sm_v201, List.forall_mem_cons.mpr ⟨sm_v202, List.forall_mem_cons.mpr ⟨sm_v203, List.forall_mem_cons.mpr ⟨sm_v204, List.forall_mem_cons.mpr ⟨sm_v205, List.forall_mem_cons.mpr ⟨sm_v206, List.forall_mem_cons.mpr ⟨sm_v207, List.forall_mem_cons.mpr ⟨sm_v208, List.forall_mem_cons.mpr ⟨sm_v209, List.forall_mem_cons.mpr ⟨sm_v210, List.forall_mem_cons.mpr ⟨sm_v211, List.forall_mem_cons.mpr ⟨sm_v212, List.forall_mem_cons.mpr ⟨sm_v213, List.forall_mem_cons.mpr ⟨sm_v214, List.forall_mem_cons.mpr ⟨sm_v215, List.forall_mem_cons.mpr ⟨sm_v216, List.forall_mem_cons.mpr ⟨sm_v217, List.forall_mem_cons.mpr ⟨sm_v218, List.forall_mem_cons.mpr ⟨sm_v219, List.forall_mem_cons.mpr ⟨sm_v220, List.forall_mem_cons.mpr ⟨sm_v221, List.forall_mem_cons.mpr ⟨sm_v222, List.forall_mem_cons.mpr ⟨sm_v223, List.forall_mem_cons.mpr ⟨sm_v224, List.forall_mem_cons.mpr ⟨sm_v225, List.forall_mem_cons.mpr ⟨sm_v226, List.forall_mem_cons.mpr ⟨sm_v227, List.forall_mem_cons.mpr ⟨sm_v228, List.forall_mem_cons.mpr ⟨sm_v229, List.forall_mem_cons.mpr ⟨sm_v230, List.forall_mem_cons.mpr ⟨sm_v231, List.forall_mem_cons.mpr ⟨sm_v232, List.forall_mem_cons.mpr ⟨sm_v233, List.forall_mem_cons.mpr ⟨sm_v234, List.forall_mem_cons.mpr ⟨sm_v235, fun _ h => absurd h List.not_mem_nil⟩⟩⟩⟩⟩⟩⟩⟩⟩⟩⟩⟩⟩⟩⟩⟩⟩⟩⟩⟩⟩⟩⟩⟩⟩⟩⟩⟩⟩⟩⟩⟩⟩⟩⟩⟩⟩⟩⟩⟩⟩⟩⟩⟩⟩⟩⟩⟩⟩⟩⟩⟩⟩⟩⟩⟩⟩⟩⟩⟩⟩⟩⟩⟩⟩⟩⟩⟩⟩⟩⟩⟩⟩⟩⟩⟩⟩⟩⟩⟩⟩⟩⟩⟩⟩⟩⟩⟩⟩⟩⟩⟩⟩⟩⟩⟩⟩⟩⟩⟩⟩⟩⟩⟩⟩⟩⟩⟩⟩⟩⟩⟩⟩⟩⟩⟩⟩⟩⟩⟩⟩⟩⟩⟩⟩⟩⟩⟩⟩⟩⟩⟩⟩⟩⟩⟩⟩⟩⟩⟩⟩⟩⟩⟩⟩⟩⟩⟩⟩⟩⟩⟩⟩⟩⟩⟩⟩⟩⟩⟩⟩⟩⟩⟩⟩⟩⟩⟩⟩⟩⟩⟩⟩⟩⟩⟩⟩⟩⟩⟩⟩⟩⟩⟩⟩⟩⟩⟩⟩⟩⟩⟩⟩⟩⟩⟩⟩⟩⟩⟩⟩⟩⟩⟩⟩⟩⟩⟩⟩⟩⟩⟩⟩⟩⟩⟩⟩⟩⟩⟩⟩⟩⟩⟩⟩⟩⟩⟩⟩⟩⟩⟩⟩⟩⟩⟩
def sm_Iq (q : Nat × Nat × Nat × Nat) : Prop := sm_w (.instanceMethod (sm_y q.2.2.1)) ∧ (sm_y q.2.2.1).name = "<init>" ∧ sm_ret q.2.2.1 = none ∧ (parseMethodDescriptor (sm_y q.2.2.1).desc).map (fun d => d.parameters.length) = some q.2.2.2 ∧ q.2.2.1 < 251
def sm_Hq (q : Nat × Nat × Nat × Nat) : Prop := sm_w (.static (sm_y q.2.2.1)) ∧ (parseMethodDescriptor (sm_y q.2.2.1).desc).map (fun d => d.parameters.length) = some q.2.2.2 ∧ q.2.2.1 < 251
def sm_MIq (q : Nat × Nat × Nat × Nat) : Prop := sm_w (Cond.methodLink (sm_c q.1) q.2.1 (sm_y q.2.2.1)) ∧ sm_Iq q
theorem sm_MI0 : sm_MIq (11, 25, 5, 1) := ⟨⟨sm_in1 (List.mem_of_getElem? (i := 84) rfl), rfl⟩, ⟨⟨sm_in1 (List.mem_of_getElem? (i := 85) rfl), rfl⟩, rfl, rfl, by decide +kernel, by decide⟩⟩
theorem sm_MI1 : sm_MIq (11, 62, 57, 1) := ⟨⟨sm_in1 (List.mem_of_getElem? (i := 226) rfl), rfl⟩, ⟨⟨sm_in1 (List.mem_of_getElem? (i := 227) rfl), rfl⟩, rfl, rfl, by decide +kernel, by decide⟩⟩
theorem sm_MI2 : sm_MIq (11, 71, 76, 1) := ⟨⟨sm_in2 (List.mem_of_getElem? (i := 13) rfl), rfl⟩, ⟨⟨sm_in2 (List.mem_of_getElem? (i := 14) rfl), rfl⟩, rfl, rfl, by decide +kernel, by decide⟩⟩
theorem sm_MI3 : sm_MIq (11, 78, 41, 1) := ⟨⟨sm_in2 (List.mem_of_getElem? (i := 36) rfl), rfl⟩, ⟨⟨sm_in2 (List.mem_of_getElem? (i := 37) rfl), rfl⟩, rfl, rfl, by decide +kernel, by decide⟩⟩
theorem sm_MI4 : sm_MIq (14, 9, 83, 0) := ⟨⟨sm_in1 (List.mem_of_getElem? (i := 25) rfl), rfl⟩, ⟨⟨sm_in1 (List.mem_of_getElem? (i := 26) rfl), rfl⟩, rfl, rfl, by decide +kernel, by decide⟩⟩
theorem sm_MI5 : sm_MIq (14, 12, 151, 0) := ⟨⟨sm_in5 (List.mem_of_getElem? (i := 120) rfl), rfl⟩, ⟨⟨sm_in5 (List.mem_of_getElem? (i := 121) rfl), rfl⟩, rfl, rfl, by decide +kernel, by decide⟩⟩
set_option maxRecDepth 100000 in
theorem sm_c_MI : ∀ q ∈ sm_MI, sm_MIq q := List.forall_mem_cons.mpr ⟨sm_MI0, List.forall_mem_cons.mpr ⟨sm_MI1, List.forall_mem_cons.mpr ⟨sm_MI2, List.forall_mem_cons.mpr ⟨sm_MI3, List.forall_mem_cons.mpr ⟨sm_MI4, List.forall_mem_cons.mpr ⟨sm_MI5, fun _ h => absurd h List.not_mem_nil⟩⟩⟩⟩⟩⟩
def sm_MINq (q : Nat × Nat × Nat × Nat) : Prop := Cond.methodLinkNest (sm_c q.1) q.2.1 (sm_y q.2.2.1) "DebtSerenade" ∈ lw_tbl ∧ sm_Iq q
theorem sm_MIN0 : sm_MINq (2, 11, 61, 0) := ⟨sm_in1 (List.mem_of_getElem? (i := 175) rfl), ⟨⟨sm_in1 (List.mem_of_getElem? (i := 139) rfl), rfl⟩, rfl, rfl, by decide +kernel, by decide⟩⟩
theorem sm_MIN1 : sm_MINq (7, 28, 61, 0) := ⟨sm_in1 (List.mem_of_getElem? (i := 232) rfl), ⟨⟨sm_in1 (List.mem_of_getElem? (i := 139) rfl), rfl⟩, rfl, rfl, by decide +kernel, by decide⟩⟩
theorem sm_MIN2 : sm_MINq (11, 9, 24, 0) := ⟨sm_in1 (List.mem_of_getElem? (i := 33) rfl), ⟨⟨sm_in1 (List.mem_of_getElem? (i := 34) rfl), rfl⟩, rfl, rfl, by decide +kernel, by decide⟩⟩
theorem sm_MIN3 : sm_MINq (11, 18, 30, 0) := ⟨sm_in1 (List.mem_of_getElem? (i := 53) rfl), ⟨⟨sm_in1 (List.mem_of_getElem? (i := 54) rfl), rfl⟩, rfl, rfl, by decide +kernel, by decide⟩⟩
theorem sm_MIN4 : sm_MINq (11, 34, 61, 0) := ⟨sm_in1 (List.mem_of_getElem? (i := 138) rfl), ⟨⟨sm_in1 (List.mem_of_getElem? (i := 139) rfl), rfl⟩, rfl, rfl, by decide +kernel, by decide⟩⟩
theorem sm_MIN5 : sm_MINq (11, 44, 21, 0) := ⟨sm_in1 (List.mem_of_getElem? (i := 170) rfl), ⟨⟨sm_in1 (List.mem_of_getElem? (i := 171) rfl), rfl⟩, rfl, rfl, by decide +kernel, by decide⟩⟩
theorem sm_MIN6 : sm_MINq (11, 51, 0, 0) := ⟨sm_in1 (List.mem_of_getElem? (i := 195) rfl), ⟨⟨sm_in1 (List.mem_of_getElem? (i := 196) rfl), rfl⟩, rfl, rfl, by decide +kernel, by decide⟩⟩
theorem sm_MIN7 : sm_MINq (11, 85, 65, 0) := ⟨sm_in2 (List.mem_of_getElem? (i := 52) rfl), ⟨⟨sm_in2 (List.mem_of_getElem? (i := 53) rfl), rfl⟩, rfl, rfl, by decide +kernel, by decide⟩⟩
theorem sm_MIN8 : sm_MINq (11, 96, 48, 0) := ⟨sm_in2 (List.mem_of_getElem? (i := 75) rfl), ⟨⟨sm_in2 (List.mem_of_getElem? (i := 76) rfl), rfl⟩, rfl, rfl, by decide +kernel, by decide⟩⟩
set_option maxRecDepth 100000 in
theorem sm_c_MIN : ∀ q ∈ sm_MIN, sm_MINq q := List.forall_mem_cons.mpr ⟨sm_MIN0, List.forall_mem_cons.mpr ⟨sm_MIN1, List.forall_mem_cons.mpr ⟨sm_MIN2, List.forall_mem_cons.mpr ⟨sm_MIN3, List.forall_mem_cons.mpr ⟨sm_MIN4, List.forall_mem_cons.mpr ⟨sm_MIN5, List.forall_mem_cons.mpr ⟨sm_MIN6, List.forall_mem_cons.mpr ⟨sm_MIN7, List.forall_mem_cons.mpr ⟨sm_MIN8, fun _ h => absurd h List.not_mem_nil⟩⟩⟩⟩⟩⟩⟩⟩⟩
def sm_MSq (q : Nat × Nat × Nat × Nat) : Prop := sm_w (Cond.methodLink (sm_c q.1) q.2.1 (sm_y q.2.2.1)) ∧ sm_Hq q
theorem sm_MS0 : sm_MSq (3, 38, 28, 2) := ⟨⟨sm_in3 (List.mem_of_getElem? (i := 166) rfl), rfl⟩, ⟨⟨sm_in3 (List.mem_of_getElem? (i := 167) rfl), rfl⟩, by decide +kernel, by decide⟩⟩
theorem sm_MS1 : sm_MSq (3, 41, 29, 3) := ⟨⟨sm_in3 (List.mem_of_getElem? (i := 169) rfl), rfl⟩, ⟨⟨sm_in3 (List.mem_of_getElem? (i := 170) rfl), rfl⟩, by decide +kernel, by decide⟩⟩
theorem sm_MS2 : sm_MSq (4, 56, 35, 1) := ⟨⟨sm_in3 (List.mem_of_getElem? (i := 124) rfl), rfl⟩, ⟨⟨sm_in3 (List.mem_of_getElem? (i := 125) rfl), rfl⟩, by decide +kernel, by decide⟩⟩
theorem sm_MS3 : sm_MSq (5, 33, 240, 1) := ⟨⟨sm_in4 (List.mem_of_getElem? (i := 27) rfl), rfl⟩, ⟨⟨sm_in4 (List.mem_of_getElem? (i := 28) rfl), rfl⟩, by decide +kernel, by decide⟩⟩
theorem sm_MS4 : sm_MSq (6, 38, 249, 2) := ⟨⟨sm_in5 (List.mem_of_getElem? (i := 71) rfl), rfl⟩, ⟨⟨sm_in5 (List.mem_of_getElem? (i := 72) rfl), rfl⟩, by decide +kernel, by decide⟩⟩
theorem sm_MS5 : sm_MSq (9, 57, 74, 2) := ⟨⟨sm_in5 (List.mem_of_getElem? (i := 32) rfl), rfl⟩, ⟨⟨sm_in5 (List.mem_of_getElem? (i := 33) rfl), rfl⟩, by decide +kernel, by decide⟩⟩
theorem sm_MS6 : sm_MSq (10, 55, 240, 1) := ⟨⟨sm_in4 (List.mem_of_getElem? (i := 118) rfl), rfl⟩, ⟨⟨sm_in4 (List.mem_of_getElem? (i := 28) rfl), rfl⟩, by decide +kernel, by decide⟩⟩
theorem sm_MS7 : sm_MSq (10, 65, 250, 2) := ⟨⟨sm_in4 (List.mem_of_getElem? (i := 111) rfl), rfl⟩, ⟨⟨sm_in4 (List.mem_of_getElem? (i := 112) rfl), rfl⟩, by decide +kernel, by decide⟩⟩
theorem sm_MS8 : sm_MSq (11, 97, 126, 2) := ⟨⟨sm_in2 (List.mem_of_getElem? (i := 141) rfl), rfl⟩, ⟨⟨sm_in2 (List.mem_of_getElem? (i := 142) rfl), rfl⟩, by decide +kernel, by decide⟩⟩
theorem sm_MS9 : sm_MSq (11, 126, 127, 1) := ⟨⟨sm_in2 (List.mem_of_getElem? (i := 175) rfl), rfl⟩, ⟨⟨sm_in2 (List.mem_of_getElem? (i := 176) rfl), rfl⟩, by decide +kernel, by decide⟩⟩
theorem sm_MS10 : sm_MSq (11, 239, 240, 1) := ⟨⟨sm_in4 (List.mem_of_getElem? (i := 37) rfl), rfl⟩, ⟨⟨sm_in4 (List.mem_of_getElem? (i := 28) rfl), rfl⟩, by decide +kernel, by decide⟩⟩
theorem sm_MS11 : sm_MSq (11, 274, 128, 1) := ⟨⟨sm_in4 (List.mem_of_getElem? (i := 137) rfl), rfl⟩, ⟨⟨sm_in4 (List.mem_of_getElem? (i := 138) rfl), rfl⟩, by decide +kernel, by decide⟩⟩
theorem sm_MS12 : sm_MSq (12, 102, 148, 3) := ⟨⟨sm_in6 (List.mem_of_getElem? (i := 42) rfl), rfl⟩, ⟨⟨sm_in6 (List.mem_of_getElem? (i := 43) rfl), rfl⟩, by decide +kernel, by decide⟩⟩
theorem sm_MS13 : sm_MSq (12, 124, 230, 1) := ⟨⟨sm_in6 (List.mem_of_getElem? (i := 66) rfl), rfl⟩, ⟨⟨sm_in6 (List.mem_of_getElem? (i := 67) rfl), rfl⟩, by decide +kernel, by decide⟩⟩
theorem sm_MS14 : sm_MSq (12, 143, 163, 1) := ⟨⟨sm_in6 (List.mem_of_getElem? (i := 86) rfl), rfl⟩, ⟨⟨sm_in6 (List.mem_of_getElem? (i := 87) rfl), rfl⟩, by decide +kernel, by decide⟩⟩
theorem sm_MS15 : sm_MSq (12, 199, 175, 1) := ⟨⟨sm_in6 (List.mem_of_getElem? (i := 147) rfl), rfl⟩, ⟨⟨sm_in6 (List.mem_of_getElem? (i := 148) rfl), rfl⟩, by decide +kernel, by decide⟩⟩
theorem sm_MS16 : sm_MSq (12, 218, 182, 2) := ⟨⟨sm_in6 (List.mem_of_getElem? (i := 188) rfl), rfl⟩, ⟨⟨sm_in6 (List.mem_of_getElem? (i := 189) rfl), rfl⟩, by decide +kernel, by decide⟩⟩
theorem sm_MS17 : sm_MSq (12, 247, 149, 2) := ⟨⟨sm_in6 (List.mem_of_getElem? (i := 226) rfl), rfl⟩, ⟨⟨sm_in6 (List.mem_of_getElem? (i := 227) rfl), rfl⟩, by decide +kernel, by decide⟩⟩
theorem sm_MS18 : sm_MSq (12, 253, 150, 1) := ⟨⟨sm_in6 (List.mem_of_getElem? (i := 219) rfl), rfl⟩, ⟨⟨sm_in6 (List.mem_of_getElem? (i := 220) rfl), rfl⟩, by decide +kernel, by decide⟩⟩
theorem sm_MS19 : sm_MSq (12, 336, 234, 2) := ⟨⟨sm_in7 (List.mem_of_getElem? (i := 134) rfl), rfl⟩, ⟨⟨sm_in7 (List.mem_of_getElem? (i := 135) rfl), rfl⟩, by decide +kernel, by decide⟩⟩
theorem sm_MS20 : sm_MSq (12, 347, 222, 1) := ⟨⟨sm_in7 (List.mem_of_getElem? (i := 154) rfl), rfl⟩, ⟨⟨sm_in7 (List.mem_of_getElem? (i := 155) rfl), rfl⟩, by decide +kernel, by decide⟩⟩
theorem sm_MS21 : sm_MSq (13, 637, 247, 4) := ⟨⟨sm_in3 (List.mem_of_getElem? (i := 47) rfl), rfl⟩, ⟨⟨sm_in3 (List.mem_of_getElem? (i := 48) rfl), rfl⟩, by decide +kernel, by decide⟩⟩
theorem sm_MS22 : sm_MSq (15, 88, 246, 1) := ⟨⟨sm_in3 (List.mem_of_getElem? (i := 50) rfl), rfl⟩, ⟨⟨sm_in3 (List.mem_of_getElem? (i := 51) rfl), rfl⟩, by decide +kernel, by decide⟩⟩
theorem sm_MS23 : sm_MSq (15, 95, 248, 4) := ⟨⟨sm_in3 (List.mem_of_getElem? (i := 57) rfl), rfl⟩, ⟨⟨sm_in3 (List.mem_of_getElem? (i := 58) rfl), rfl⟩, by decide +kernel, by decide⟩⟩
set_option maxRecDepth 100000 in
theorem sm_c_MS : ∀ q ∈ sm_MS, sm_MSq q := List.forall_mem_cons.mpr ⟨sm_MS0, List.forall_mem_cons.mpr ⟨sm_MS1, List.forall_mem_cons.mpr ⟨sm_MS2, List.forall_mem_cons.mpr ⟨sm_MS3, List.forall_mem_cons.mpr ⟨sm_MS4, List.forall_mem_cons.mpr ⟨sm_MS5, List.forall_mem_cons.mpr ⟨sm_MS6, List.forall_mem_cons.mpr ⟨sm_MS7, List.forall_mem_cons.mpr ⟨sm_MS8, List.forall_mem_cons.mpr ⟨sm_MS9, List.forall_mem_cons.mpr ⟨sm_MS10, List.forall_mem_cons.mpr ⟨sm_MS11, List.forall_mem_cons.mpr ⟨sm_MS12, List.forall_mem_cons.mpr ⟨sm_MS13, List.forall_mem_cons.mpr ⟨sm_MS14, List.forall_mem_cons.mpr ⟨sm_MS15, List.forall_mem_cons.mpr ⟨sm_MS16, List.forall_mem_cons.mpr ⟨sm_MS17, List.forall_mem_cons.mpr ⟨sm_MS18, List.forall_mem_cons.mpr ⟨sm_MS19, List.forall_mem_cons.mpr ⟨sm_MS20, List.forall_mem_cons.mpr ⟨sm_MS21, List.forall_mem_cons.mpr ⟨sm_MS22, List.forall_mem_cons.mpr ⟨sm_MS23, fun _ h => absurd h List.not_mem_nil⟩⟩⟩⟩⟩⟩⟩⟩⟩⟩⟩⟩⟩⟩⟩⟩⟩⟩⟩⟩⟩⟩⟩⟩
def sm_MSNq (q : Nat × Nat × Nat × Nat) : Prop := Cond.methodLinkNest (sm_c q.1) q.2.1 (sm_y q.2.2.1) "DebtSerenade" ∈ lw_tbl ∧ sm_Hq q
theorem sm_MSN0 : sm_MSNq (9, 42, 126, 2) := ⟨sm_in5 (List.mem_of_getElem? (i := 19) rfl), ⟨⟨sm_in2 (List.mem_of_getElem? (i := 142) rfl), rfl⟩, by decide +kernel, by decide⟩⟩
set_option maxRecDepth 100000 in
theorem sm_c_MSN : ∀ q ∈ sm_MSN, sm_MSNq q := List.forall_mem_cons.mpr ⟨sm_MSN0, fun _ h => absurd h List.not_mem_nil⟩
def sm_CTq (q : Nat × Nat × Nat) : Prop := sm_w (.classLink (sm_c q.1) q.2.1 (sm_c q.2.2)) ∧ q.2.2 < 13
theorem sm_CT0 : sm_CTq (2, 9, 8) := ⟨⟨sm_in1 (List.mem_of_getElem? (i := 174) rfl), rfl⟩, by decide⟩
theorem sm_CT1 : sm_CTq (7, 15, 8) := ⟨⟨sm_in1 (List.mem_of_getElem? (i := 230) rfl), rfl⟩, by decide⟩
theorem sm_CT2 : sm_CTq (11, 7, 3) := ⟨⟨sm_in1 (List.mem_of_getElem? (i := 31) rfl), rfl⟩, by decide⟩
theorem sm_CT3 : sm_CTq (11, 16, 4) := ⟨⟨sm_in1 (List.mem_of_getElem? (i := 51) rfl), rfl⟩, by decide⟩
theorem sm_CT4 : sm_CTq (11, 23, 1) := ⟨⟨sm_in1 (List.mem_of_getElem? (i := 82) rfl), rfl⟩, by decide⟩
theorem sm_CT5 : sm_CTq (11, 32, 8) := ⟨⟨sm_in1 (List.mem_of_getElem? (i := 136) rfl), rfl⟩, by decide⟩
theorem sm_CT6 : sm_CTq (11, 42, 2) := ⟨⟨sm_in1 (List.mem_of_getElem? (i := 168) rfl), rfl⟩, by decide⟩
theorem sm_CT7 : sm_CTq (11, 49, 0) := ⟨⟨sm_in1 (List.mem_of_getElem? (i := 193) rfl), rfl⟩, by decide⟩
theorem sm_CT8 : sm_CTq (11, 60, 7) := ⟨⟨sm_in1 (List.mem_of_getElem? (i := 224) rfl), rfl⟩, by decide⟩
theorem sm_CT9 : sm_CTq (11, 69, 10) := ⟨⟨sm_in2 (List.mem_of_getElem? (i := 11) rfl), rfl⟩, by decide⟩
theorem sm_CT10 : sm_CTq (11, 76, 5) := ⟨⟨sm_in2 (List.mem_of_getElem? (i := 34) rfl), rfl⟩, by decide⟩
theorem sm_CT11 : sm_CTq (11, 83, 9) := ⟨⟨sm_in2 (List.mem_of_getElem? (i := 50) rfl), rfl⟩, by decide⟩
theorem sm_CT12 : sm_CTq (11, 90, 6) := ⟨⟨sm_in2 (List.mem_of_getElem? (i := 72) rfl), rfl⟩, by decide⟩
theorem sm_CT13 : sm_CTq (14, 7, 11) := ⟨⟨sm_in1 (List.mem_of_getElem? (i := 23) rfl), rfl⟩, by decide⟩
theorem sm_CT14 : sm_CTq (14, 10, 12) := ⟨⟨sm_in5 (List.mem_of_getElem? (i := 118) rfl), rfl⟩, by decide⟩
set_option maxRecDepth 100000 in
theorem sm_c_CT : ∀ q ∈ sm_CT, sm_CTq q := List.forall_mem_cons.mpr ⟨sm_CT0, List.forall_mem_cons.mpr ⟨sm_CT1, List.forall_mem_cons.mpr ⟨sm_CT2, List.forall_mem_cons.mpr ⟨sm_CT3, List.forall_mem_cons.mpr ⟨sm_CT4, List.forall_mem_cons.mpr ⟨sm_CT5, List.forall_mem_cons.mpr ⟨sm_CT6, List.forall_mem_cons.mpr ⟨sm_CT7, List.forall_mem_cons.mpr ⟨sm_CT8, List.forall_mem_cons.mpr ⟨sm_CT9, List.forall_mem_cons.mpr ⟨sm_CT10, List.forall_mem_cons.mpr ⟨sm_CT11, List.forall_mem_cons.mpr ⟨sm_CT12, List.forall_mem_cons.mpr ⟨sm_CT13, List.forall_mem_cons.mpr ⟨sm_CT14, fun _ h => absurd h List.not_mem_nil⟩⟩⟩⟩⟩⟩⟩⟩⟩⟩⟩⟩⟩⟩⟩
def sm_ANq (q : Nat × Nat × Nat) : Prop := sm_w (.classLink (sm_c q.1) q.2.1 (sm_c q.2.2)) ∧ (q.2.2 = 6 ∨ q.2.2 = 8)
theorem sm_AN0 : sm_ANq (7, 15, 8) := ⟨⟨sm_in1 (List.mem_of_getElem? (i := 230) rfl), rfl⟩, by decide⟩
theorem sm_AN1 : sm_ANq (11, 90, 6) := ⟨⟨sm_in2 (List.mem_of_getElem? (i := 72) rfl), rfl⟩, by decide⟩
set_option maxRecDepth 100000 in
theorem sm_c_AN : ∀ q ∈ sm_AN, sm_ANq q := List.forall_mem_cons.mpr ⟨sm_AN0, List.forall_mem_cons.mpr ⟨sm_AN1, fun _ h => absurd h List.not_mem_nil⟩⟩
def sm_OIq (q : Nat × Nat) : Prop := sm_w (.methodLink (sm_c q.1) q.2 objectInit)
theorem sm_OI0 : sm_OIq (0, 1) := ⟨sm_in1 (List.mem_of_getElem? (i := 198) rfl), rfl⟩
theorem sm_OI1 : sm_OIq (1, 3) := ⟨sm_in1 (List.mem_of_getElem? (i := 87) rfl), rfl⟩
theorem sm_OI2 : sm_OIq (2, 3) := ⟨sm_in1 (List.mem_of_getElem? (i := 173) rfl), rfl⟩
theorem sm_OI3 : sm_OIq (3, 1) := ⟨sm_in1 (List.mem_of_getElem? (i := 36) rfl), rfl⟩
theorem sm_OI4 : sm_OIq (4, 1) := ⟨sm_in1 (List.mem_of_getElem? (i := 56) rfl), rfl⟩
theorem sm_OI5 : sm_OIq (5, 3) := ⟨sm_in2 (List.mem_of_getElem? (i := 39) rfl), rfl⟩
theorem sm_OI6 : sm_OIq (6, 3) := ⟨sm_in2 (List.mem_of_getElem? (i := 78) rfl), rfl⟩
theorem sm_OI7 : sm_OIq (7, 3) := ⟨sm_in1 (List.mem_of_getElem? (i := 229) rfl), rfl⟩
theorem sm_OI8 : sm_OIq (8, 3) := ⟨sm_in1 (List.mem_of_getElem? (i := 141) rfl), rfl⟩
theorem sm_OI9 : sm_OIq (9, 3) := ⟨sm_in2 (List.mem_of_getElem? (i := 55) rfl), rfl⟩
theorem sm_OI10 : sm_OIq (10, 3) := ⟨sm_in2 (List.mem_of_getElem? (i := 16) rfl), rfl⟩
theorem sm_OI11 : sm_OIq (11, 1) := ⟨sm_in1 (List.mem_of_getElem? (i := 28) rfl), rfl⟩
theorem sm_OI12 : sm_OIq (12, 3) := ⟨sm_in5 (List.mem_of_getElem? (i := 123) rfl), rfl⟩
set_option maxRecDepth 100000 in
theorem sm_c_OI : ∀ q ∈ sm_OI, sm_OIq q := List.forall_mem_cons.mpr ⟨sm_OI0, List.forall_mem_cons.mpr ⟨sm_OI1, List.forall_mem_cons.mpr ⟨sm_OI2, List.forall_mem_cons.mpr ⟨sm_OI3, List.forall_mem_cons.mpr ⟨sm_OI4, List.forall_mem_cons.mpr ⟨sm_OI5, List.forall_mem_cons.mpr ⟨sm_OI6, List.forall_mem_cons.mpr ⟨sm_OI7, List.forall_mem_cons.mpr ⟨sm_OI8, List.forall_mem_cons.mpr ⟨sm_OI9, List.forall_mem_cons.mpr ⟨sm_OI10, List.forall_mem_cons.mpr ⟨sm_OI11, List.forall_mem_cons.mpr ⟨sm_OI12, fun _ h => absurd h List.not_mem_nil⟩⟩⟩⟩⟩⟩⟩⟩⟩⟩⟩⟩⟩
def sm_ACq (q : Nat × Nat) : Prop := sm_w (.methodLink (sm_c q.1) q.2 arraycopyName)
theorem sm_AC0 : sm_ACq (0, 32) := ⟨sm_in2 (List.mem_of_getElem? (i := 221) rfl), rfl⟩
theorem sm_AC1 : sm_ACq (2, 37) := ⟨sm_in4 (List.mem_of_getElem? (i := 213) rfl), rfl⟩
theorem sm_AC2 : sm_ACq (3, 32) := ⟨sm_in3 (List.mem_of_getElem? (i := 140) rfl), rfl⟩
theorem sm_AC3 : sm_ACq (7, 81) := ⟨sm_in4 (List.mem_of_getElem? (i := 82) rfl), rfl⟩
theorem sm_AC4 : sm_ACq (8, 31) := ⟨sm_in3 (List.mem_of_getElem? (i := 202) rfl), rfl⟩
theorem sm_AC5 : sm_ACq (11, 402) := ⟨sm_in5 (List.mem_of_getElem? (i := 100) rfl), rfl⟩
set_option maxRecDepth 100000 in
theorem sm_c_AC : ∀ q ∈ sm_AC, sm_ACq q := List.forall_mem_cons.mpr ⟨sm_AC0, List.forall_mem_cons.mpr ⟨sm_AC1, List.forall_mem_cons.mpr ⟨sm_AC2, List.forall_mem_cons.mpr ⟨sm_AC3, List.forall_mem_cons.mpr ⟨sm_AC4, List.forall_mem_cons.mpr ⟨sm_AC5, fun _ h => absurd h List.not_mem_nil⟩⟩⟩⟩⟩⟩
def sm_LCq (q : Nat × Nat × Int) : Prop := sm_w (.constant (sm_c q.1) q.2.1 (Int32.ofInt q.2.2))
theorem sm_LC0 : sm_LCq (1, 110, 2147483647) := ⟨sm_in4 (List.mem_of_getElem? (i := 92) rfl), rfl⟩
theorem sm_LC1 : sm_LCq (11, 150, (-2000000000)) := ⟨sm_in2 (List.mem_of_getElem? (i := 208) rfl), rfl⟩
theorem sm_LC2 : sm_LCq (11, 314, 1103515245) := ⟨sm_in4 (List.mem_of_getElem? (i := 183) rfl), rfl⟩
theorem sm_LC3 : sm_LCq (12, 150, (-2000000000)) := ⟨sm_in6 (List.mem_of_getElem? (i := 93) rfl), rfl⟩
theorem sm_LC4 : sm_LCq (12, 259, 1000000) := ⟨sm_in6 (List.mem_of_getElem? (i := 229) rfl), rfl⟩
theorem sm_LC5 : sm_LCq (12, 290, 1103515245) := ⟨sm_in7 (List.mem_of_getElem? (i := 57) rfl), rfl⟩
theorem sm_LC6 : sm_LCq (17, 265, 1431655765) := ⟨sm_in4 (List.mem_of_getElem? (i := 30) rfl), rfl⟩
theorem sm_LC7 : sm_LCq (17, 266, 858993459) := ⟨sm_in4 (List.mem_of_getElem? (i := 31) rfl), rfl⟩
theorem sm_LC8 : sm_LCq (17, 267, 252645135) := ⟨sm_in4 (List.mem_of_getElem? (i := 32) rfl), rfl⟩
set_option maxRecDepth 100000 in
theorem sm_c_LC : ∀ q ∈ sm_LC, sm_LCq q := List.forall_mem_cons.mpr ⟨sm_LC0, List.forall_mem_cons.mpr ⟨sm_LC1, List.forall_mem_cons.mpr ⟨sm_LC2, List.forall_mem_cons.mpr ⟨sm_LC3, List.forall_mem_cons.mpr ⟨sm_LC4, List.forall_mem_cons.mpr ⟨sm_LC5, List.forall_mem_cons.mpr ⟨sm_LC6, List.forall_mem_cons.mpr ⟨sm_LC7, List.forall_mem_cons.mpr ⟨sm_LC8, fun _ h => absurd h List.not_mem_nil⟩⟩⟩⟩⟩⟩⟩⟩⟩
def sm_LLq (q : Nat × Nat × Int) : Prop := sm_w (.constantLong (sm_c q.1) q.2.1 (Int64.ofInt q.2.2))
theorem sm_LL0 : sm_LLq (11, 391, (-9223372036854775808)) := ⟨sm_in5 (List.mem_of_getElem? (i := 95) rfl), rfl⟩
theorem sm_LL1 : sm_LLq (12, 109, 15) := ⟨sm_in6 (List.mem_of_getElem? (i := 41) rfl), rfl⟩
theorem sm_LL2 : sm_LLq (12, 115, 999) := ⟨sm_in6 (List.mem_of_getElem? (i := 57) rfl), rfl⟩
theorem sm_LL3 : sm_LLq (12, 128, 12) := ⟨sm_in6 (List.mem_of_getElem? (i := 70) rfl), rfl⟩
theorem sm_LL4 : sm_LLq (12, 130, 4) := ⟨sm_in6 (List.mem_of_getElem? (i := 79) rfl), rfl⟩
theorem sm_LL5 : sm_LLq (12, 135, 6) := ⟨sm_in6 (List.mem_of_getElem? (i := 84) rfl), rfl⟩
theorem sm_LL6 : sm_LLq (12, 137, 7) := ⟨sm_in6 (List.mem_of_getElem? (i := 85) rfl), rfl⟩
theorem sm_LL7 : sm_LLq (12, 151, 255) := ⟨sm_in6 (List.mem_of_getElem? (i := 102) rfl), rfl⟩
theorem sm_LL8 : sm_LLq (12, 237, 40) := ⟨sm_in6 (List.mem_of_getElem? (i := 174) rfl), rfl⟩
theorem sm_LL9 : sm_LLq (12, 239, 2) := ⟨sm_in6 (List.mem_of_getElem? (i := 175) rfl), rfl⟩
theorem sm_LL10 : sm_LLq (12, 267, (-1)) := ⟨sm_in6 (List.mem_of_getElem? (i := 238) rfl), rfl⟩
theorem sm_LL11 : sm_LLq (12, 282, 3) := ⟨sm_in7 (List.mem_of_getElem? (i := 39) rfl), rfl⟩
theorem sm_LL12 : sm_LLq (12, 288, 30) := ⟨sm_in7 (List.mem_of_getElem? (i := 56) rfl), rfl⟩
theorem sm_LL13 : sm_LLq (12, 331, 5) := ⟨sm_in6 (List.mem_of_getElem? (i := 69) rfl), rfl⟩
theorem sm_LL14 : sm_LLq (12, 342, (-9223372036854775808)) := ⟨sm_in7 (List.mem_of_getElem? (i := 141) rfl), rfl⟩
theorem sm_LL15 : sm_LLq (14, 166, 4294967295) := ⟨sm_in7 (List.mem_of_getElem? (i := 161) rfl), rfl⟩
set_option maxRecDepth 100000 in
theorem sm_c_LL : ∀ q ∈ sm_LL, sm_LLq q := List.forall_mem_cons.mpr ⟨sm_LL0, List.forall_mem_cons.mpr ⟨sm_LL1, List.forall_mem_cons.mpr ⟨sm_LL2, List.forall_mem_cons.mpr ⟨sm_LL3, List.forall_mem_cons.mpr ⟨sm_LL4, List.forall_mem_cons.mpr ⟨sm_LL5, List.forall_mem_cons.mpr ⟨sm_LL6, List.forall_mem_cons.mpr ⟨sm_LL7, List.forall_mem_cons.mpr ⟨sm_LL8, List.forall_mem_cons.mpr ⟨sm_LL9, List.forall_mem_cons.mpr ⟨sm_LL10, List.forall_mem_cons.mpr ⟨sm_LL11, List.forall_mem_cons.mpr ⟨sm_LL12, List.forall_mem_cons.mpr ⟨sm_LL13, List.forall_mem_cons.mpr ⟨sm_LL14, List.forall_mem_cons.mpr ⟨sm_LL15, fun _ h => absurd h List.not_mem_nil⟩⟩⟩⟩⟩⟩⟩⟩⟩⟩⟩⟩⟩⟩⟩⟩
def sm_MXq (q : Nat × Nat) : Prop := sm_w (.methodLink (sm_c q.1) q.2 Lib.Math.max.name)
theorem sm_MX0 : sm_MXq (1, 65) := ⟨sm_in3 (List.mem_of_getElem? (i := 172) rfl), rfl⟩
theorem sm_MX1 : sm_MXq (3, 29) := ⟨sm_in3 (List.mem_of_getElem? (i := 139) rfl), rfl⟩
theorem sm_MX2 : sm_MXq (5, 69) := ⟨sm_in4 (List.mem_of_getElem? (i := 60) rfl), rfl⟩
theorem sm_MX3 : sm_MXq (6, 35) := ⟨sm_in5 (List.mem_of_getElem? (i := 70) rfl), rfl⟩
theorem sm_MX4 : sm_MXq (10, 79) := ⟨sm_in4 (List.mem_of_getElem? (i := 127) rfl), rfl⟩
theorem sm_MX5 : sm_MXq (11, 309) := ⟨sm_in4 (List.mem_of_getElem? (i := 178) rfl), rfl⟩
theorem sm_MX6 : sm_MXq (15, 92) := ⟨sm_in3 (List.mem_of_getElem? (i := 53) rfl), rfl⟩
set_option maxRecDepth 100000 in
theorem sm_c_MX : ∀ q ∈ sm_MX, sm_MXq q := List.forall_mem_cons.mpr ⟨sm_MX0, List.forall_mem_cons.mpr ⟨sm_MX1, List.forall_mem_cons.mpr ⟨sm_MX2, List.forall_mem_cons.mpr ⟨sm_MX3, List.forall_mem_cons.mpr ⟨sm_MX4, List.forall_mem_cons.mpr ⟨sm_MX5, List.forall_mem_cons.mpr ⟨sm_MX6, fun _ h => absurd h List.not_mem_nil⟩⟩⟩⟩⟩⟩⟩
def sm_MNq (q : Nat × Nat) : Prop := sm_w (.methodLink (sm_c q.1) q.2 Lib.Math.min.name)
theorem sm_MN0 : sm_MNq (1, 41) := ⟨sm_in2 (List.mem_of_getElem? (i := 168) rfl), rfl⟩
theorem sm_MN1 : sm_MNq (3, 23) := ⟨sm_in3 (List.mem_of_getElem? (i := 138) rfl), rfl⟩
theorem sm_MN2 : sm_MNq (5, 49) := ⟨sm_in4 (List.mem_of_getElem? (i := 42) rfl), rfl⟩
theorem sm_MN3 : sm_MNq (6, 29) := ⟨sm_in5 (List.mem_of_getElem? (i := 69) rfl), rfl⟩
theorem sm_MN4 : sm_MNq (8, 25) := ⟨sm_in3 (List.mem_of_getElem? (i := 225) rfl), rfl⟩
theorem sm_MN5 : sm_MNq (9, 36) := ⟨sm_in5 (List.mem_of_getElem? (i := 51) rfl), rfl⟩
theorem sm_MN6 : sm_MNq (11, 318) := ⟨sm_in3 (List.mem_of_getElem? (i := 189) rfl), rfl⟩
theorem sm_MN7 : sm_MNq (15, 38) := ⟨sm_in3 (List.mem_of_getElem? (i := 56) rfl), rfl⟩
set_option maxRecDepth 100000 in
theorem sm_c_MN : ∀ q ∈ sm_MN, sm_MNq q := List.forall_mem_cons.mpr ⟨sm_MN0, List.forall_mem_cons.mpr ⟨sm_MN1, List.forall_mem_cons.mpr ⟨sm_MN2, List.forall_mem_cons.mpr ⟨sm_MN3, List.forall_mem_cons.mpr ⟨sm_MN4, List.forall_mem_cons.mpr ⟨sm_MN5, List.forall_mem_cons.mpr ⟨sm_MN6, List.forall_mem_cons.mpr ⟨sm_MN7, fun _ h => absurd h List.not_mem_nil⟩⟩⟩⟩⟩⟩⟩⟩
def sm_sn : List (String × String × String) := [("java/lang/String", "COMPACT_STRINGS", "Z"), ("DebtSerenade", "TOPS", "[I"), ("DebtSerenade$Tunes", "ABOVE", "[I"), ("DebtSerenade$Tunes", "BODIES", "[I")]
def sm_GSq (q : Nat × Nat × Nat) : Prop := sm_w (.fieldLink (sm_c q.1) q.2.1 (sm_sn.getD q.2.2 ("", "", "")).1 (sm_sn.getD q.2.2 ("", "", "")).2.1 (sm_sn.getD q.2.2 ("", "", "")).2.2) ∧ q.2.2 < 4
theorem sm_GS0 : sm_GSq (9, 30, 2) := ⟨⟨sm_in5 (List.mem_of_getElem? (i := 37) rfl), rfl⟩, by decide⟩
theorem sm_GS1 : sm_GSq (9, 54, 3) := ⟨⟨sm_in5 (List.mem_of_getElem? (i := 35) rfl), rfl⟩, by decide⟩
theorem sm_GS2 : sm_GSq (11, 147, 1) := ⟨⟨sm_in2 (List.mem_of_getElem? (i := 206) rfl), rfl⟩, by decide⟩
theorem sm_GS3 : sm_GSq (13, 38, 0) := ⟨⟨sm_in3 (List.mem_of_getElem? (i := 37) rfl), rfl⟩, by decide⟩
set_option maxRecDepth 100000 in
theorem sm_c_GS : ∀ q ∈ sm_GS, sm_GSq q := List.forall_mem_cons.mpr ⟨sm_GS0, List.forall_mem_cons.mpr ⟨sm_GS1, List.forall_mem_cons.mpr ⟨sm_GS2, List.forall_mem_cons.mpr ⟨sm_GS3, fun _ h => absurd h List.not_mem_nil⟩⟩⟩⟩
def sm_LSq (q : Nat × Nat × Nat) : Prop := (sm_st.getD q.2.2 ("", 0, "")).1 = sm_c q.1 ∧ (sm_st.getD q.2.2 ("", 0, "")).2.1 = q.2.1 ∧ q.2.2 < 11
theorem sm_LS0 : sm_LSq (4, 38, 0) := ⟨rfl, rfl, by decide⟩
theorem sm_LS1 : sm_LSq (4, 48, 1) := ⟨rfl, rfl, by decide⟩
theorem sm_LS2 : sm_LSq (4, 60, 2) := ⟨rfl, rfl, by decide⟩
theorem sm_LS3 : sm_LSq (4, 62, 3) := ⟨rfl, rfl, by decide⟩
theorem sm_LS4 : sm_LSq (4, 64, 4) := ⟨rfl, rfl, by decide⟩
theorem sm_LS5 : sm_LSq (4, 66, 5) := ⟨rfl, rfl, by decide⟩
theorem sm_LS6 : sm_LSq (4, 68, 6) := ⟨rfl, rfl, by decide⟩
theorem sm_LS7 : sm_LSq (4, 70, 7) := ⟨rfl, rfl, by decide⟩
theorem sm_LS8 : sm_LSq (4, 75, 8) := ⟨rfl, rfl, by decide⟩
theorem sm_LS9 : sm_LSq (4, 86, 9) := ⟨rfl, rfl, by decide⟩
theorem sm_LS10 : sm_LSq (4, 88, 10) := ⟨rfl, rfl, by decide⟩
set_option maxRecDepth 100000 in
theorem sm_c_LS : ∀ q ∈ sm_LS, sm_LSq q := List.forall_mem_cons.mpr ⟨sm_LS0, List.forall_mem_cons.mpr ⟨sm_LS1, List.forall_mem_cons.mpr ⟨sm_LS2, List.forall_mem_cons.mpr ⟨sm_LS3, List.forall_mem_cons.mpr ⟨sm_LS4, List.forall_mem_cons.mpr ⟨sm_LS5, List.forall_mem_cons.mpr ⟨sm_LS6, List.forall_mem_cons.mpr ⟨sm_LS7, List.forall_mem_cons.mpr ⟨sm_LS8, List.forall_mem_cons.mpr ⟨sm_LS9, List.forall_mem_cons.mpr ⟨sm_LS10, fun _ h => absurd h List.not_mem_nil⟩⟩⟩⟩⟩⟩⟩⟩⟩⟩⟩
theorem sm_c_OI2 : sm_w (.instanceMethod objectInit) ∧ sm_w (.code objectInit ⟨#[0xb1]⟩ 1 none) := ⟨⟨sm_in1 (List.mem_of_getElem? (i := 29) rfl), rfl⟩, ⟨sm_in1 (List.mem_of_getElem? (i := 30) rfl), rfl⟩⟩
theorem sm_c_AC2 : sm_w (.native arraycopyName) ∧ sm_w (.static arraycopyName) ∧ sm_w (.initialized "java/lang/System") := ⟨⟨sm_in2 (List.mem_of_getElem? (i := 223) rfl), rfl⟩, ⟨sm_in2 (List.mem_of_getElem? (i := 222) rfl), rfl⟩, ⟨sm_in1 (List.mem_of_getElem? (i := 15) rfl), rfl⟩⟩
theorem sm_c_mmax : sm_w (.static Lib.Math.max.name) ∧ sm_w (.initialized "java/lang/Math") ∧ sm_w (.code Lib.Math.max.name Lib.Math.max.code 2 (some .int)) := ⟨⟨sm_in3 (List.mem_of_getElem? (i := 54) rfl), rfl⟩, ⟨sm_in1 (List.mem_of_getElem? (i := 14) rfl), rfl⟩, ⟨sm_in3 (List.mem_of_getElem? (i := 55) rfl), rfl⟩⟩
theorem sm_c_mmin : sm_w (.static Lib.Math.min.name) ∧ sm_w (.initialized "java/lang/Math") ∧ sm_w (.code Lib.Math.min.name Lib.Math.min.code 2 (some .int)) := ⟨⟨sm_in2 (List.mem_of_getElem? (i := 169) rfl), rfl⟩, ⟨sm_in1 (List.mem_of_getElem? (i := 14) rfl), rfl⟩, ⟨sm_in2 (List.mem_of_getElem? (i := 170) rfl), rfl⟩⟩
theorem sm_c_arr : sm_w (.arrayClass .int) ∧ sm_w (.arrayClass .long) ∧ Cond.arrayOver (.object "DebtSerenade$Shelf") ∈ lw_tbl ∧ Cond.arrayOver (.object "DebtSerenade$Tally") ∈ lw_tbl := ⟨⟨sm_in1 (List.mem_of_getElem? (i := 50) rfl), rfl⟩, ⟨sm_in2 (List.mem_of_getElem? (i := 96) rfl), rfl⟩, sm_in2 (List.mem_of_getElem? (i := 73) rfl), sm_in1 (List.mem_of_getElem? (i := 231) rfl)⟩
def sm_Cq (c : Nat) : Prop := (∀ w ∈ u_ws (sm_c c) (sm_T c) (sm_N c), sm_w w) ∧ sm_w (.instantiable (sm_c c) (sm_N c)) ∧ sm_w (.initialized (sm_c c))
theorem sm_cl0_0 : sm_w (u_lay (sm_c 0) (sm_T 0) 0) := ⟨sm_in1 (List.mem_of_getElem? (i := 211) rfl), rfl⟩
theorem sm_cl0_1 : sm_w (u_lay (sm_c 0) (sm_T 0) 1) := ⟨sm_in1 (List.mem_of_getElem? (i := 213) rfl), rfl⟩
theorem sm_cl0_2 : sm_w (u_lay (sm_c 0) (sm_T 0) 2) := ⟨sm_in1 (List.mem_of_getElem? (i := 215) rfl), rfl⟩
theorem sm_cl0_3 : sm_w (u_lay (sm_c 0) (sm_T 0) 3) := ⟨sm_in1 (List.mem_of_getElem? (i := 217) rfl), rfl⟩
theorem sm_cl0_4 : sm_w (u_lay (sm_c 0) (sm_T 0) 4) := ⟨sm_in1 (List.mem_of_getElem? (i := 219) rfl), rfl⟩
theorem sm_cl0_5 : sm_w (u_lay (sm_c 0) (sm_T 0) 5) := ⟨sm_in1 (List.mem_of_getElem? (i := 221) rfl), rfl⟩
theorem sm_cl0 : sm_Cq 0 := ⟨List.forall_mem_cons.mpr ⟨sm_cl0_0, List.forall_mem_cons.mpr ⟨sm_cl0_1, List.forall_mem_cons.mpr ⟨sm_cl0_2, List.forall_mem_cons.mpr ⟨sm_cl0_3, List.forall_mem_cons.mpr ⟨sm_cl0_4, List.forall_mem_cons.mpr ⟨sm_cl0_5, fun _ h => absurd h List.not_mem_nil⟩⟩⟩⟩⟩⟩, ⟨sm_in1 (List.mem_of_getElem? (i := 194) rfl), rfl⟩, ⟨sm_in1 (List.mem_of_getElem? (i := 7) rfl), rfl⟩⟩
theorem sm_cl1_0 : sm_w (u_lay (sm_c 1) (sm_T 1) 0) := ⟨sm_in1 (List.mem_of_getElem? (i := 117) rfl), rfl⟩
theorem sm_cl1_1 : sm_w (u_lay (sm_c 1) (sm_T 1) 1) := ⟨sm_in1 (List.mem_of_getElem? (i := 119) rfl), rfl⟩
theorem sm_cl1_2 : sm_w (u_lay (sm_c 1) (sm_T 1) 2) := ⟨sm_in1 (List.mem_of_getElem? (i := 121) rfl), rfl⟩
theorem sm_cl1_3 : sm_w (u_lay (sm_c 1) (sm_T 1) 3) := ⟨sm_in1 (List.mem_of_getElem? (i := 123) rfl), rfl⟩
theorem sm_cl1_4 : sm_w (u_lay (sm_c 1) (sm_T 1) 4) := ⟨sm_in1 (List.mem_of_getElem? (i := 125) rfl), rfl⟩
theorem sm_cl1_5 : sm_w (u_lay (sm_c 1) (sm_T 1) 5) := ⟨sm_in1 (List.mem_of_getElem? (i := 127) rfl), rfl⟩
theorem sm_cl1_6 : sm_w (u_lay (sm_c 1) (sm_T 1) 6) := ⟨sm_in1 (List.mem_of_getElem? (i := 129) rfl), rfl⟩
theorem sm_cl1_7 : sm_w (u_lay (sm_c 1) (sm_T 1) 7) := ⟨sm_in1 (List.mem_of_getElem? (i := 131) rfl), rfl⟩
theorem sm_cl1_8 : sm_w (u_lay (sm_c 1) (sm_T 1) 8) := ⟨sm_in1 (List.mem_of_getElem? (i := 133) rfl), rfl⟩
theorem sm_cl1 : sm_Cq 1 := ⟨List.forall_mem_cons.mpr ⟨sm_cl1_0, List.forall_mem_cons.mpr ⟨sm_cl1_1, List.forall_mem_cons.mpr ⟨sm_cl1_2, List.forall_mem_cons.mpr ⟨sm_cl1_3, List.forall_mem_cons.mpr ⟨sm_cl1_4, List.forall_mem_cons.mpr ⟨sm_cl1_5, List.forall_mem_cons.mpr ⟨sm_cl1_6, List.forall_mem_cons.mpr ⟨sm_cl1_7, List.forall_mem_cons.mpr ⟨sm_cl1_8, fun _ h => absurd h List.not_mem_nil⟩⟩⟩⟩⟩⟩⟩⟩⟩, ⟨sm_in1 (List.mem_of_getElem? (i := 83) rfl), rfl⟩, ⟨sm_in1 (List.mem_of_getElem? (i := 4) rfl), rfl⟩⟩
theorem sm_cl2_0 : sm_w (u_lay (sm_c 2) (sm_T 2) 0) := ⟨sm_in1 (List.mem_of_getElem? (i := 182) rfl), rfl⟩
theorem sm_cl2_1 : sm_w (u_lay (sm_c 2) (sm_T 2) 1) := ⟨sm_in1 (List.mem_of_getElem? (i := 184) rfl), rfl⟩
theorem sm_cl2_2 : sm_w (u_lay (sm_c 2) (sm_T 2) 2) := ⟨sm_in1 (List.mem_of_getElem? (i := 186) rfl), rfl⟩
theorem sm_cl2_3 : sm_w (u_lay (sm_c 2) (sm_T 2) 3) := ⟨sm_in1 (List.mem_of_getElem? (i := 188) rfl), rfl⟩
theorem sm_cl2_4 : sm_w (u_lay (sm_c 2) (sm_T 2) 4) := ⟨sm_in1 (List.mem_of_getElem? (i := 190) rfl), rfl⟩
theorem sm_cl2 : sm_Cq 2 := ⟨List.forall_mem_cons.mpr ⟨sm_cl2_0, List.forall_mem_cons.mpr ⟨sm_cl2_1, List.forall_mem_cons.mpr ⟨sm_cl2_2, List.forall_mem_cons.mpr ⟨sm_cl2_3, List.forall_mem_cons.mpr ⟨sm_cl2_4, fun _ h => absurd h List.not_mem_nil⟩⟩⟩⟩⟩, ⟨sm_in1 (List.mem_of_getElem? (i := 169) rfl), rfl⟩, ⟨sm_in1 (List.mem_of_getElem? (i := 6) rfl), rfl⟩⟩
theorem sm_cl3_0 : sm_w (u_lay (sm_c 3) (sm_T 3) 0) := ⟨sm_in1 (List.mem_of_getElem? (i := 41) rfl), rfl⟩
theorem sm_cl3_1 : sm_w (u_lay (sm_c 3) (sm_T 3) 1) := ⟨sm_in1 (List.mem_of_getElem? (i := 43) rfl), rfl⟩
theorem sm_cl3_2 : sm_w (u_lay (sm_c 3) (sm_T 3) 2) := ⟨sm_in1 (List.mem_of_getElem? (i := 45) rfl), rfl⟩
theorem sm_cl3_3 : sm_w (u_lay (sm_c 3) (sm_T 3) 3) := ⟨sm_in1 (List.mem_of_getElem? (i := 47) rfl), rfl⟩
theorem sm_cl3 : sm_Cq 3 := ⟨List.forall_mem_cons.mpr ⟨sm_cl3_0, List.forall_mem_cons.mpr ⟨sm_cl3_1, List.forall_mem_cons.mpr ⟨sm_cl3_2, List.forall_mem_cons.mpr ⟨sm_cl3_3, fun _ h => absurd h List.not_mem_nil⟩⟩⟩⟩, ⟨sm_in1 (List.mem_of_getElem? (i := 32) rfl), rfl⟩, ⟨sm_in1 (List.mem_of_getElem? (i := 2) rfl), rfl⟩⟩
theorem sm_cl4_0 : sm_w (u_lay (sm_c 4) (sm_T 4) 0) := ⟨sm_in1 (List.mem_of_getElem? (i := 67) rfl), rfl⟩
theorem sm_cl4_1 : sm_w (u_lay (sm_c 4) (sm_T 4) 1) := ⟨sm_in1 (List.mem_of_getElem? (i := 69) rfl), rfl⟩
theorem sm_cl4_2 : sm_w (u_lay (sm_c 4) (sm_T 4) 2) := ⟨sm_in1 (List.mem_of_getElem? (i := 71) rfl), rfl⟩
theorem sm_cl4_3 : sm_w (u_lay (sm_c 4) (sm_T 4) 3) := ⟨sm_in1 (List.mem_of_getElem? (i := 73) rfl), rfl⟩
theorem sm_cl4_4 : sm_w (u_lay (sm_c 4) (sm_T 4) 4) := ⟨sm_in1 (List.mem_of_getElem? (i := 75) rfl), rfl⟩
theorem sm_cl4_5 : sm_w (u_lay (sm_c 4) (sm_T 4) 5) := ⟨sm_in1 (List.mem_of_getElem? (i := 77) rfl), rfl⟩
theorem sm_cl4_6 : sm_w (u_lay (sm_c 4) (sm_T 4) 6) := ⟨sm_in1 (List.mem_of_getElem? (i := 79) rfl), rfl⟩
theorem sm_cl4 : sm_Cq 4 := ⟨List.forall_mem_cons.mpr ⟨sm_cl4_0, List.forall_mem_cons.mpr ⟨sm_cl4_1, List.forall_mem_cons.mpr ⟨sm_cl4_2, List.forall_mem_cons.mpr ⟨sm_cl4_3, List.forall_mem_cons.mpr ⟨sm_cl4_4, List.forall_mem_cons.mpr ⟨sm_cl4_5, List.forall_mem_cons.mpr ⟨sm_cl4_6, fun _ h => absurd h List.not_mem_nil⟩⟩⟩⟩⟩⟩⟩, ⟨sm_in1 (List.mem_of_getElem? (i := 52) rfl), rfl⟩, ⟨sm_in1 (List.mem_of_getElem? (i := 3) rfl), rfl⟩⟩
theorem sm_cl5_0 : sm_w (u_lay (sm_c 5) (sm_T 5) 0) := ⟨sm_in2 (List.mem_of_getElem? (i := 43) rfl), rfl⟩
theorem sm_cl5_1 : sm_w (u_lay (sm_c 5) (sm_T 5) 1) := ⟨sm_in2 (List.mem_of_getElem? (i := 45) rfl), rfl⟩
theorem sm_cl5_2 : sm_w (u_lay (sm_c 5) (sm_T 5) 2) := ⟨sm_in2 (List.mem_of_getElem? (i := 47) rfl), rfl⟩
theorem sm_cl5 : sm_Cq 5 := ⟨List.forall_mem_cons.mpr ⟨sm_cl5_0, List.forall_mem_cons.mpr ⟨sm_cl5_1, List.forall_mem_cons.mpr ⟨sm_cl5_2, fun _ h => absurd h List.not_mem_nil⟩⟩⟩, ⟨sm_in2 (List.mem_of_getElem? (i := 35) rfl), rfl⟩, ⟨sm_in1 (List.mem_of_getElem? (i := 10) rfl), rfl⟩⟩
theorem sm_cl6_0 : sm_w (u_lay (sm_c 6) (sm_T 6) 0) := ⟨sm_in2 (List.mem_of_getElem? (i := 87) rfl), rfl⟩
theorem sm_cl6_1 : sm_w (u_lay (sm_c 6) (sm_T 6) 1) := ⟨sm_in2 (List.mem_of_getElem? (i := 89) rfl), rfl⟩
theorem sm_cl6_2 : sm_w (u_lay (sm_c 6) (sm_T 6) 2) := ⟨sm_in2 (List.mem_of_getElem? (i := 91) rfl), rfl⟩
theorem sm_cl6_3 : sm_w (u_lay (sm_c 6) (sm_T 6) 3) := ⟨sm_in2 (List.mem_of_getElem? (i := 93) rfl), rfl⟩
theorem sm_cl6 : sm_Cq 6 := ⟨List.forall_mem_cons.mpr ⟨sm_cl6_0, List.forall_mem_cons.mpr ⟨sm_cl6_1, List.forall_mem_cons.mpr ⟨sm_cl6_2, List.forall_mem_cons.mpr ⟨sm_cl6_3, fun _ h => absurd h List.not_mem_nil⟩⟩⟩⟩, ⟨sm_in2 (List.mem_of_getElem? (i := 74) rfl), rfl⟩, ⟨sm_in1 (List.mem_of_getElem? (i := 12) rfl), rfl⟩⟩
theorem sm_cl7_0 : sm_w (u_lay (sm_c 7) (sm_T 7) 0) := ⟨sm_in2 (List.mem_of_getElem? (i := 0) rfl), rfl⟩
theorem sm_cl7_1 : sm_w (u_lay (sm_c 7) (sm_T 7) 1) := ⟨sm_in2 (List.mem_of_getElem? (i := 2) rfl), rfl⟩
theorem sm_cl7_2 : sm_w (u_lay (sm_c 7) (sm_T 7) 2) := ⟨sm_in2 (List.mem_of_getElem? (i := 4) rfl), rfl⟩
theorem sm_cl7_3 : sm_w (u_lay (sm_c 7) (sm_T 7) 3) := ⟨sm_in2 (List.mem_of_getElem? (i := 6) rfl), rfl⟩
theorem sm_cl7_4 : sm_w (u_lay (sm_c 7) (sm_T 7) 4) := ⟨sm_in2 (List.mem_of_getElem? (i := 8) rfl), rfl⟩
theorem sm_cl7 : sm_Cq 7 := ⟨List.forall_mem_cons.mpr ⟨sm_cl7_0, List.forall_mem_cons.mpr ⟨sm_cl7_1, List.forall_mem_cons.mpr ⟨sm_cl7_2, List.forall_mem_cons.mpr ⟨sm_cl7_3, List.forall_mem_cons.mpr ⟨sm_cl7_4, fun _ h => absurd h List.not_mem_nil⟩⟩⟩⟩⟩, ⟨sm_in1 (List.mem_of_getElem? (i := 225) rfl), rfl⟩, ⟨sm_in1 (List.mem_of_getElem? (i := 8) rfl), rfl⟩⟩
theorem sm_cl8_0 : sm_w (u_lay (sm_c 8) (sm_T 8) 0) := ⟨sm_in1 (List.mem_of_getElem? (i := 159) rfl), rfl⟩
theorem sm_cl8_1 : sm_w (u_lay (sm_c 8) (sm_T 8) 1) := ⟨sm_in1 (List.mem_of_getElem? (i := 161) rfl), rfl⟩
theorem sm_cl8_2 : sm_w (u_lay (sm_c 8) (sm_T 8) 2) := ⟨sm_in1 (List.mem_of_getElem? (i := 163) rfl), rfl⟩
theorem sm_cl8_3 : sm_w (u_lay (sm_c 8) (sm_T 8) 3) := ⟨sm_in1 (List.mem_of_getElem? (i := 165) rfl), rfl⟩
theorem sm_cl8 : sm_Cq 8 := ⟨List.forall_mem_cons.mpr ⟨sm_cl8_0, List.forall_mem_cons.mpr ⟨sm_cl8_1, List.forall_mem_cons.mpr ⟨sm_cl8_2, List.forall_mem_cons.mpr ⟨sm_cl8_3, fun _ h => absurd h List.not_mem_nil⟩⟩⟩⟩, ⟨sm_in1 (List.mem_of_getElem? (i := 137) rfl), rfl⟩, ⟨sm_in1 (List.mem_of_getElem? (i := 5) rfl), rfl⟩⟩
theorem sm_cl9_0 : sm_w (u_lay (sm_c 9) (sm_T 9) 0) := ⟨sm_in2 (List.mem_of_getElem? (i := 63) rfl), rfl⟩
theorem sm_cl9_1 : sm_w (u_lay (sm_c 9) (sm_T 9) 1) := ⟨sm_in2 (List.mem_of_getElem? (i := 65) rfl), rfl⟩
theorem sm_cl9_2 : sm_w (u_lay (sm_c 9) (sm_T 9) 2) := ⟨sm_in2 (List.mem_of_getElem? (i := 67) rfl), rfl⟩
theorem sm_cl9_3 : sm_w (u_lay (sm_c 9) (sm_T 9) 3) := ⟨sm_in2 (List.mem_of_getElem? (i := 69) rfl), rfl⟩
theorem sm_cl9 : sm_Cq 9 := ⟨List.forall_mem_cons.mpr ⟨sm_cl9_0, List.forall_mem_cons.mpr ⟨sm_cl9_1, List.forall_mem_cons.mpr ⟨sm_cl9_2, List.forall_mem_cons.mpr ⟨sm_cl9_3, fun _ h => absurd h List.not_mem_nil⟩⟩⟩⟩, ⟨sm_in2 (List.mem_of_getElem? (i := 51) rfl), rfl⟩, ⟨sm_in1 (List.mem_of_getElem? (i := 11) rfl), rfl⟩⟩
theorem sm_cl10_0 : sm_w (u_lay (sm_c 10) (sm_T 10) 0) := ⟨sm_in2 (List.mem_of_getElem? (i := 23) rfl), rfl⟩
theorem sm_cl10_1 : sm_w (u_lay (sm_c 10) (sm_T 10) 1) := ⟨sm_in2 (List.mem_of_getElem? (i := 25) rfl), rfl⟩
theorem sm_cl10_2 : sm_w (u_lay (sm_c 10) (sm_T 10) 2) := ⟨sm_in2 (List.mem_of_getElem? (i := 27) rfl), rfl⟩
theorem sm_cl10_3 : sm_w (u_lay (sm_c 10) (sm_T 10) 3) := ⟨sm_in2 (List.mem_of_getElem? (i := 29) rfl), rfl⟩
theorem sm_cl10_4 : sm_w (u_lay (sm_c 10) (sm_T 10) 4) := ⟨sm_in2 (List.mem_of_getElem? (i := 31) rfl), rfl⟩
theorem sm_cl10 : sm_Cq 10 := ⟨List.forall_mem_cons.mpr ⟨sm_cl10_0, List.forall_mem_cons.mpr ⟨sm_cl10_1, List.forall_mem_cons.mpr ⟨sm_cl10_2, List.forall_mem_cons.mpr ⟨sm_cl10_3, List.forall_mem_cons.mpr ⟨sm_cl10_4, fun _ h => absurd h List.not_mem_nil⟩⟩⟩⟩⟩, ⟨sm_in2 (List.mem_of_getElem? (i := 12) rfl), rfl⟩, ⟨sm_in1 (List.mem_of_getElem? (i := 9) rfl), rfl⟩⟩
theorem sm_cl11_0 : sm_w (u_lay (sm_c 11) (sm_T 11) 0) := ⟨sm_in2 (List.mem_of_getElem? (i := 110) rfl), rfl⟩
theorem sm_cl11_1 : sm_w (u_lay (sm_c 11) (sm_T 11) 1) := ⟨sm_in2 (List.mem_of_getElem? (i := 112) rfl), rfl⟩
theorem sm_cl11_2 : sm_w (u_lay (sm_c 11) (sm_T 11) 2) := ⟨sm_in2 (List.mem_of_getElem? (i := 114) rfl), rfl⟩
theorem sm_cl11_3 : sm_w (u_lay (sm_c 11) (sm_T 11) 3) := ⟨sm_in2 (List.mem_of_getElem? (i := 116) rfl), rfl⟩
theorem sm_cl11_4 : sm_w (u_lay (sm_c 11) (sm_T 11) 4) := ⟨sm_in2 (List.mem_of_getElem? (i := 118) rfl), rfl⟩
theorem sm_cl11_5 : sm_w (u_lay (sm_c 11) (sm_T 11) 5) := ⟨sm_in2 (List.mem_of_getElem? (i := 120) rfl), rfl⟩
theorem sm_cl11_6 : sm_w (u_lay (sm_c 11) (sm_T 11) 6) := ⟨sm_in2 (List.mem_of_getElem? (i := 122) rfl), rfl⟩
theorem sm_cl11_7 : sm_w (u_lay (sm_c 11) (sm_T 11) 7) := ⟨sm_in2 (List.mem_of_getElem? (i := 124) rfl), rfl⟩
theorem sm_cl11_8 : sm_w (u_lay (sm_c 11) (sm_T 11) 8) := ⟨sm_in2 (List.mem_of_getElem? (i := 126) rfl), rfl⟩
theorem sm_cl11_9 : sm_w (u_lay (sm_c 11) (sm_T 11) 9) := ⟨sm_in2 (List.mem_of_getElem? (i := 128) rfl), rfl⟩
theorem sm_cl11_10 : sm_w (u_lay (sm_c 11) (sm_T 11) 10) := ⟨sm_in2 (List.mem_of_getElem? (i := 130) rfl), rfl⟩
theorem sm_cl11_11 : sm_w (u_lay (sm_c 11) (sm_T 11) 11) := ⟨sm_in2 (List.mem_of_getElem? (i := 132) rfl), rfl⟩
theorem sm_cl11_12 : sm_w (u_lay (sm_c 11) (sm_T 11) 12) := ⟨sm_in2 (List.mem_of_getElem? (i := 134) rfl), rfl⟩
theorem sm_cl11 : sm_Cq 11 := ⟨List.forall_mem_cons.mpr ⟨sm_cl11_0, List.forall_mem_cons.mpr ⟨sm_cl11_1, List.forall_mem_cons.mpr ⟨sm_cl11_2, List.forall_mem_cons.mpr ⟨sm_cl11_3, List.forall_mem_cons.mpr ⟨sm_cl11_4, List.forall_mem_cons.mpr ⟨sm_cl11_5, List.forall_mem_cons.mpr ⟨sm_cl11_6, List.forall_mem_cons.mpr ⟨sm_cl11_7, List.forall_mem_cons.mpr ⟨sm_cl11_8, List.forall_mem_cons.mpr ⟨sm_cl11_9, List.forall_mem_cons.mpr ⟨sm_cl11_10, List.forall_mem_cons.mpr ⟨sm_cl11_11, List.forall_mem_cons.mpr ⟨sm_cl11_12, fun _ h => absurd h List.not_mem_nil⟩⟩⟩⟩⟩⟩⟩⟩⟩⟩⟩⟩⟩, ⟨sm_in1 (List.mem_of_getElem? (i := 24) rfl), rfl⟩, ⟨sm_in1 (List.mem_of_getElem? (i := 1) rfl), rfl⟩⟩
theorem sm_cl12_0 : sm_w (u_lay (sm_c 12) (sm_T 12) 0) := ⟨sm_in5 (List.mem_of_getElem? (i := 172) rfl), rfl⟩
theorem sm_cl12_1 : sm_w (u_lay (sm_c 12) (sm_T 12) 1) := ⟨sm_in5 (List.mem_of_getElem? (i := 174) rfl), rfl⟩
theorem sm_cl12_2 : sm_w (u_lay (sm_c 12) (sm_T 12) 2) := ⟨sm_in5 (List.mem_of_getElem? (i := 176) rfl), rfl⟩
theorem sm_cl12_3 : sm_w (u_lay (sm_c 12) (sm_T 12) 3) := ⟨sm_in5 (List.mem_of_getElem? (i := 178) rfl), rfl⟩
theorem sm_cl12_4 : sm_w (u_lay (sm_c 12) (sm_T 12) 4) := ⟨sm_in5 (List.mem_of_getElem? (i := 180) rfl), rfl⟩
theorem sm_cl12_5 : sm_w (u_lay (sm_c 12) (sm_T 12) 5) := ⟨sm_in5 (List.mem_of_getElem? (i := 182) rfl), rfl⟩
theorem sm_cl12_6 : sm_w (u_lay (sm_c 12) (sm_T 12) 6) := ⟨sm_in5 (List.mem_of_getElem? (i := 184) rfl), rfl⟩
theorem sm_cl12_7 : sm_w (u_lay (sm_c 12) (sm_T 12) 7) := ⟨sm_in5 (List.mem_of_getElem? (i := 186) rfl), rfl⟩
theorem sm_cl12_8 : sm_w (u_lay (sm_c 12) (sm_T 12) 8) := ⟨sm_in5 (List.mem_of_getElem? (i := 188) rfl), rfl⟩
theorem sm_cl12_9 : sm_w (u_lay (sm_c 12) (sm_T 12) 9) := ⟨sm_in5 (List.mem_of_getElem? (i := 190) rfl), rfl⟩
theorem sm_cl12_10 : sm_w (u_lay (sm_c 12) (sm_T 12) 10) := ⟨sm_in5 (List.mem_of_getElem? (i := 192) rfl), rfl⟩
theorem sm_cl12_11 : sm_w (u_lay (sm_c 12) (sm_T 12) 11) := ⟨sm_in5 (List.mem_of_getElem? (i := 194) rfl), rfl⟩
theorem sm_cl12_12 : sm_w (u_lay (sm_c 12) (sm_T 12) 12) := ⟨sm_in5 (List.mem_of_getElem? (i := 196) rfl), rfl⟩
theorem sm_cl12_13 : sm_w (u_lay (sm_c 12) (sm_T 12) 13) := ⟨sm_in5 (List.mem_of_getElem? (i := 198) rfl), rfl⟩
theorem sm_cl12_14 : sm_w (u_lay (sm_c 12) (sm_T 12) 14) := ⟨sm_in5 (List.mem_of_getElem? (i := 200) rfl), rfl⟩
theorem sm_cl12_15 : sm_w (u_lay (sm_c 12) (sm_T 12) 15) := ⟨sm_in5 (List.mem_of_getElem? (i := 202) rfl), rfl⟩
theorem sm_cl12_16 : sm_w (u_lay (sm_c 12) (sm_T 12) 16) := ⟨sm_in5 (List.mem_of_getElem? (i := 204) rfl), rfl⟩
theorem sm_cl12_17 : sm_w (u_lay (sm_c 12) (sm_T 12) 17) := ⟨sm_in5 (List.mem_of_getElem? (i := 206) rfl), rfl⟩
theorem sm_cl12_18 : sm_w (u_lay (sm_c 12) (sm_T 12) 18) := ⟨sm_in5 (List.mem_of_getElem? (i := 208) rfl), rfl⟩
theorem sm_cl12_19 : sm_w (u_lay (sm_c 12) (sm_T 12) 19) := ⟨sm_in5 (List.mem_of_getElem? (i := 210) rfl), rfl⟩
theorem sm_cl12_20 : sm_w (u_lay (sm_c 12) (sm_T 12) 20) := ⟨sm_in5 (List.mem_of_getElem? (i := 212) rfl), rfl⟩
theorem sm_cl12_21 : sm_w (u_lay (sm_c 12) (sm_T 12) 21) := ⟨sm_in5 (List.mem_of_getElem? (i := 214) rfl), rfl⟩
theorem sm_cl12_22 : sm_w (u_lay (sm_c 12) (sm_T 12) 22) := ⟨sm_in5 (List.mem_of_getElem? (i := 216) rfl), rfl⟩
theorem sm_cl12_23 : sm_w (u_lay (sm_c 12) (sm_T 12) 23) := ⟨sm_in5 (List.mem_of_getElem? (i := 218) rfl), rfl⟩
theorem sm_cl12_24 : sm_w (u_lay (sm_c 12) (sm_T 12) 24) := ⟨sm_in5 (List.mem_of_getElem? (i := 220) rfl), rfl⟩
theorem sm_cl12_25 : sm_w (u_lay (sm_c 12) (sm_T 12) 25) := ⟨sm_in5 (List.mem_of_getElem? (i := 222) rfl), rfl⟩
theorem sm_cl12_26 : sm_w (u_lay (sm_c 12) (sm_T 12) 26) := ⟨sm_in5 (List.mem_of_getElem? (i := 224) rfl), rfl⟩
theorem sm_cl12_27 : sm_w (u_lay (sm_c 12) (sm_T 12) 27) := ⟨sm_in5 (List.mem_of_getElem? (i := 226) rfl), rfl⟩
theorem sm_cl12_28 : sm_w (u_lay (sm_c 12) (sm_T 12) 28) := ⟨sm_in5 (List.mem_of_getElem? (i := 228) rfl), rfl⟩
theorem sm_cl12_29 : sm_w (u_lay (sm_c 12) (sm_T 12) 29) := ⟨sm_in5 (List.mem_of_getElem? (i := 230) rfl), rfl⟩
theorem sm_cl12_30 : sm_w (u_lay (sm_c 12) (sm_T 12) 30) := ⟨sm_in5 (List.mem_of_getElem? (i := 232) rfl), rfl⟩
theorem sm_cl12_31 : sm_w (u_lay (sm_c 12) (sm_T 12) 31) := ⟨sm_in5 (List.mem_of_getElem? (i := 234) rfl), rfl⟩
theorem sm_cl12_32 : sm_w (u_lay (sm_c 12) (sm_T 12) 32) := ⟨sm_in5 (List.mem_of_getElem? (i := 236) rfl), rfl⟩
theorem sm_cl12_33 : sm_w (u_lay (sm_c 12) (sm_T 12) 33) := ⟨sm_in5 (List.mem_of_getElem? (i := 238) rfl), rfl⟩
theorem sm_cl12_34 : sm_w (u_lay (sm_c 12) (sm_T 12) 34) := ⟨sm_in6 (List.mem_of_getElem? (i := 0) rfl), rfl⟩
theorem sm_cl12_35 : sm_w (u_lay (sm_c 12) (sm_T 12) 35) := ⟨sm_in6 (List.mem_of_getElem? (i := 2) rfl), rfl⟩
theorem sm_cl12_36 : sm_w (u_lay (sm_c 12) (sm_T 12) 36) := ⟨sm_in6 (List.mem_of_getElem? (i := 4) rfl), rfl⟩
theorem sm_cl12_37 : sm_w (u_lay (sm_c 12) (sm_T 12) 37) := ⟨sm_in6 (List.mem_of_getElem? (i := 6) rfl), rfl⟩
theorem sm_cl12_38 : sm_w (u_lay (sm_c 12) (sm_T 12) 38) := ⟨sm_in6 (List.mem_of_getElem? (i := 8) rfl), rfl⟩
theorem sm_cl12_39 : sm_w (u_lay (sm_c 12) (sm_T 12) 39) := ⟨sm_in6 (List.mem_of_getElem? (i := 10) rfl), rfl⟩
theorem sm_cl12_40 : sm_w (u_lay (sm_c 12) (sm_T 12) 40) := ⟨sm_in6 (List.mem_of_getElem? (i := 12) rfl), rfl⟩
theorem sm_cl12_41 : sm_w (u_lay (sm_c 12) (sm_T 12) 41) := ⟨sm_in6 (List.mem_of_getElem? (i := 14) rfl), rfl⟩
theorem sm_cl12_42 : sm_w (u_lay (sm_c 12) (sm_T 12) 42) := ⟨sm_in6 (List.mem_of_getElem? (i := 16) rfl), rfl⟩
theorem sm_cl12_43 : sm_w (u_lay (sm_c 12) (sm_T 12) 43) := ⟨sm_in6 (List.mem_of_getElem? (i := 18) rfl), rfl⟩
theorem sm_cl12_44 : sm_w (u_lay (sm_c 12) (sm_T 12) 44) := ⟨sm_in6 (List.mem_of_getElem? (i := 20) rfl), rfl⟩
theorem sm_cl12_45 : sm_w (u_lay (sm_c 12) (sm_T 12) 45) := ⟨sm_in6 (List.mem_of_getElem? (i := 22) rfl), rfl⟩
theorem sm_cl12_46 : sm_w (u_lay (sm_c 12) (sm_T 12) 46) := ⟨sm_in6 (List.mem_of_getElem? (i := 24) rfl), rfl⟩
theorem sm_cl12_47 : sm_w (u_lay (sm_c 12) (sm_T 12) 47) := ⟨sm_in6 (List.mem_of_getElem? (i := 26) rfl), rfl⟩
theorem sm_cl12 : sm_Cq 12 := ⟨List.forall_mem_cons.mpr ⟨sm_cl12_0, List.forall_mem_cons.mpr ⟨sm_cl12_1, List.forall_mem_cons.mpr ⟨sm_cl12_2, List.forall_mem_cons.mpr ⟨sm_cl12_3, List.forall_mem_cons.mpr ⟨sm_cl12_4, List.forall_mem_cons.mpr ⟨sm_cl12_5, List.forall_mem_cons.mpr ⟨sm_cl12_6, List.forall_mem_cons.mpr ⟨sm_cl12_7, List.forall_mem_cons.mpr ⟨sm_cl12_8, List.forall_mem_cons.mpr ⟨sm_cl12_9, List.forall_mem_cons.mpr ⟨sm_cl12_10, List.forall_mem_cons.mpr ⟨sm_cl12_11, List.forall_mem_cons.mpr ⟨sm_cl12_12, List.forall_mem_cons.mpr ⟨sm_cl12_13, List.forall_mem_cons.mpr ⟨sm_cl12_14, List.forall_mem_cons.mpr ⟨sm_cl12_15, List.forall_mem_cons.mpr ⟨sm_cl12_16, List.forall_mem_cons.mpr ⟨sm_cl12_17, List.forall_mem_cons.mpr ⟨sm_cl12_18, List.forall_mem_cons.mpr ⟨sm_cl12_19, List.forall_mem_cons.mpr ⟨sm_cl12_20, List.forall_mem_cons.mpr ⟨sm_cl12_21, List.forall_mem_cons.mpr ⟨sm_cl12_22, List.forall_mem_cons.mpr ⟨sm_cl12_23, List.forall_mem_cons.mpr ⟨sm_cl12_24, List.forall_mem_cons.mpr ⟨sm_cl12_25, List.forall_mem_cons.mpr ⟨sm_cl12_26, List.forall_mem_cons.mpr ⟨sm_cl12_27, List.forall_mem_cons.mpr ⟨sm_cl12_28, List.forall_mem_cons.mpr ⟨sm_cl12_29, List.forall_mem_cons.mpr ⟨sm_cl12_30, List.forall_mem_cons.mpr ⟨sm_cl12_31, List.forall_mem_cons.mpr ⟨sm_cl12_32, List.forall_mem_cons.mpr ⟨sm_cl12_33, List.forall_mem_cons.mpr ⟨sm_cl12_34, List.forall_mem_cons.mpr ⟨sm_cl12_35, List.forall_mem_cons.mpr ⟨sm_cl12_36, List.forall_mem_cons.mpr ⟨sm_cl12_37, List.forall_mem_cons.mpr ⟨sm_cl12_38, List.forall_mem_cons.mpr ⟨sm_cl12_39, List.forall_mem_cons.mpr ⟨sm_cl12_40, List.forall_mem_cons.mpr ⟨sm_cl12_41, List.forall_mem_cons.mpr ⟨sm_cl12_42, List.forall_mem_cons.mpr ⟨sm_cl12_43, List.forall_mem_cons.mpr ⟨sm_cl12_44, List.forall_mem_cons.mpr ⟨sm_cl12_45, List.forall_mem_cons.mpr ⟨sm_cl12_46, List.forall_mem_cons.mpr ⟨sm_cl12_47, fun _ h => absurd h List.not_mem_nil⟩⟩⟩⟩⟩⟩⟩⟩⟩⟩⟩⟩⟩⟩⟩⟩⟩⟩⟩⟩⟩⟩⟩⟩⟩⟩⟩⟩⟩⟩⟩⟩⟩⟩⟩⟩⟩⟩⟩⟩⟩⟩⟩⟩⟩⟩⟩⟩, ⟨sm_in5 (List.mem_of_getElem? (i := 119) rfl), rfl⟩, ⟨sm_in1 (List.mem_of_getElem? (i := 13) rfl), rfl⟩⟩
theorem sm_c_cls : ∀ c : Nat, c < 13 → sm_Cq c := by
  intro c hc
  rcases (show c = 0 ∨ c = 1 ∨ c = 2 ∨ c = 3 ∨ c = 4 ∨ c = 5 ∨ c = 6 ∨ c = 7 ∨ c = 8 ∨ c = 9 ∨ c = 10 ∨ c = 11 ∨ c = 12 by omega) with rfl | rfl | rfl | rfl | rfl | rfl | rfl | rfl | rfl | rfl | rfl | rfl | rfl
  · exact sm_cl0
  · exact sm_cl1
  · exact sm_cl2
  · exact sm_cl3
  · exact sm_cl4
  · exact sm_cl5
  · exact sm_cl6
  · exact sm_cl7
  · exact sm_cl8
  · exact sm_cl9
  · exact sm_cl10
  · exact sm_cl11
  · exact sm_cl12
set_option maxRecDepth 100000 in
theorem sm_c_nm : ∀ c : Fin 13, ∀ a : Nat, a < sm_N c → ∀ b : Nat, b < sm_N c → a ≠ b → (sm_T c a).2.1 ≠ (sm_T c b).2.1 := by decide +kernel
set_option maxRecDepth 100000 in
theorem sm_c_ty1 : ∀ c : Fin 13, ∀ k : Nat, k < sm_N c → parseFieldDescriptor (sm_T c k).2.2.1 = some (sm_ty c k) := by decide +kernel
theorem sm_c_ty2 : ∀ c : Fin 13, ∀ k : Nat, k < sm_N c → (sm_fk c k = 0 → sm_ty c k = .int) ∧ (sm_fk c k = 1 → sm_ty c k = .boolean) ∧ (sm_fk c k = 2 → (match sm_ty c k with | .object _ => true | .array _ => true | _ => false) = true) ∧ (sm_fk c k = 0 ∨ sm_fk c k = 1 ∨ sm_fk c k = 2) := by decide +kernel
