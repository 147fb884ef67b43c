/-! act: both alike -/
theorem iv_tu_wt {B : Nat} {I I2 : sm_I} (h : iv_tu B I) (L : List Int32) (hL : L.length < 24) (e1 : ∀ q b, q ≠ 88 → q ≠ 125 → ¬ (q = 87 ∧ b = 2) → ¬ (q = 103 ∧ (b = 41 ∨ b = 42 ∨ b = 43)) → I2 q b = I q b) (e2 : I2 87 2 = nI L.length) (e3 : I2 103 41 = nI L.length) (e4 : ∀ j, j < L.length → I2 88 j = L.getD j 0 ∧ I2 125 j = L.getD j 0) : ag 7 I I2 ∧ iv_tu B I2 := by
  obtain ⟨h1, h2, h3, h4, -⟩ := h
  refine ⟨fun q b h0 h7 => e1 q b ?_ ?_ ?_ ?_, h1, by rw [e1 _ _ (by omega) (by omega) (by omega) (by omega), h2], by rw [e1 _ _ (by omega) (by omega) (by omega) (by omega), h3], fun b hb => ?_, L.length, hL, e2, e3, fun j hj => by rw [(e4 j hj).1, (e4 j hj).2]⟩
  · rintro rfl
    exact h7 rfl
  · rintro rfl
    exact h7 rfl
  · rintro ⟨rfl, rfl⟩
    exact h7 rfl
  · rintro ⟨rfl, rfl | rfl | rfl⟩
    · exact h7 rfl
    · exact h0 rfl
    · exact h0 rfl
  · obtain ⟨k, k1, k2, k3⟩ := h4 b hb
    exact ⟨k, k1, by rw [e1 _ _ (by omega) (by omega) (by omega) (by omega), k2], by rw [e1 _ _ (by omega) (by omega) (by omega) (by omega), k3]⟩
def acV (a : Nat) (o x N : Int32) : Int32 := if a = 0 then sgV o x N else if a = 1 then mvV o o x N else if a = 2 then huV o o x N else teV o o x N
def acL (a : Nat) (o : Int32) : List Int32 := if a = 0 then sgL o else if a = 1 then mvL o o else if a = 2 then huL o o else teL o o
theorem acL_len (a : Nat) (o : Int32) : (acL a o).length < 24 := by
  have h1 := sgL_len o
  have h2 := mvL_len o o
  have h3 := huL_len o o
  have h4 := teL_len o o
  unfold acL
  (repeat' split) <;> omega
theorem c_actB (d n : Nat) (I : sm_I) (J : sm_J) (K : Option Value → sm_H → Prop) {b a x : Int32} (hx : ¬ ((0 ≤ b ∧ b < I 87 1) ∧ (0 ≤ a ∧ a ≤ 3))) : sm_Ok (d + 3) 117 0 [.ref 26, .int b, .int a, .int x] [] (sm_SH n, I, J) K ↔ K (some (.int 0)) (sm_SH n, wt 88 87 2 I [], J) := by
  have e : ∀ q, sm_uI I 87 2 0 87 1 = q ↔ I 87 1 = q := fun q => by rw [uI_o _ _ (by omega)]
  have e1 : sm_uI I 87 2 0 87 1 = I 87 1 := uI_o _ _ (by omega)
  rw [← wt_nil]
  simp only [z117_0, z117_1, z117_4, z117_5, z117_6, z117_7, z117_10, z71_0, z71_1, z71_2, z71_5, z71_6, z71_7, z71_10, z71_13, z71_14, z71_15, z71_18, z71_21, z71_22, z71_23, z71_24, z71_25, z71_26, z71_29, z71_32, z71_33, sm_cti, sm_ctr, sm_ctn, sm_nbi, Option.toList_some, Option.toList_none, List.cons_append, List.nil_append, ne_eq, reduceCtorEq, not_false_eq_true, Nat.reduceLeDiff, kc26, kc87, rc87, rf26_11, y_tIs, e1, y_within, y_bit]
  by_cases h1 : 0 ≤ b ∧ b < I 87 1
  · have h2 : ¬ (0 ≤ a ∧ a ≤ 3) := fun z => hx ⟨h1, z⟩
    simp only [h1, h2, if_true, if_false, not_true_eq_false, not_false_eq_true, and_true, true_and, and_false, false_and, and_self, or_true, true_or, or_false, false_or, reduceIte, iff_self, Int32.add_zero, y_10, Classical.not_not]
  · simp only [h1, if_true, if_false, not_true_eq_false, not_false_eq_true, and_true, true_and, and_false, false_and, and_self, or_true, true_or, or_false, false_or, reduceIte, iff_self, Int32.add_zero, y_10, Classical.not_not]
theorem c_actX {xs : Nat → Int32} {I : sm_I} (h : iv_ro xs I) (d n : Nat) (J : sm_J) (K : Option Value → sm_H → Prop) {B b o a : Nat} (hB : I 87 1 = nI B) (hB2 : B ≤ 50) (hb : b < B) (hI : I 89 b = nI o) (ho : o < 8) (ha : a < 4) (x : Int32) : sm_Ok (d + 16) 117 0 [.ref 26, .int (nI b), .int (nI a), .int x] [] (sm_SH n, I, J) K ↔ K (some (.int (acV a (nI o) x (nI b)))) (sm_SH n, wt 88 87 2 I (acL a (nI o)), J) := by
  have e1 : wt 88 87 2 I [] 87 1 = nI B := by rw [wt_o _ _ (by omega) (by omega), hB]
  have hbB := y_idx_of hb (show B < 2 ^ 31 by omega)
  have ha3 : (0 : Int32) ≤ nI a ∧ nI a ≤ 3 := ⟨nI_pos' (by omega), nI_le (b := 3) (by omega) (by decide)⟩
  have kd := fun d K l => c_kd hB hB2 hb hI ho d n J K l
  have g0 := fun d K => c_sg h d n J K [] (by decide) (e := 1) (by decide) ho x (nI b)
  have g1 := fun d K => c_mv h d n J K [] hB hB2 hb hI ho (by decide) (e := 1) (by decide) ho x
  have g2 := fun d K => c_hu h d n J K [] hB hB2 hb hI ho (by decide) (e := 1) (by decide) ho x
  have g3 := fun d K => c_te h d n J K [] hB hB2 hb hI ho (by decide) (e := 1) (by decide) ho x
  rw [show nI 1 = 1 from rfl] at g0 g1 g2 g3
  have e01 : (0 : Int32) + 1 = 1 := by decide
  simp only [z117_0, z117_1, z117_4, z117_5, z117_6, z117_7, z117_10, z71_0, z71_1, z71_2, z71_5, z71_6, z71_7, z71_10, z71_13, z71_14, z71_15, z71_18, z71_21, z71_22, z71_23, z71_24, z71_25, z71_26, z71_29, z71_32, z71_33, sm_cti, sm_ctr, sm_ctn, sm_nbi, Option.toList_some, Option.toList_none, List.cons_append, List.nil_append, ne_eq, reduceCtorEq, not_false_eq_true, Nat.reduceLeDiff, kc26, kc87, rc87, rf26_11, y_tIs, wt_nil 88 87 2 I, e1, hbB, ha3, y_within, y_bit, if_true, if_false, not_true_eq_false, not_false_eq_true, and_true, true_and, and_false, false_and, and_self, or_true, true_or, or_false, false_or, reduceIte, iff_self, Int32.add_zero, y_10, Classical.not_not]
  rcases (show a = 0 ∨ a = 1 ∨ a = 2 ∨ a = 3 by omega) with rfl | rfl | rfl | rfl
  · simp only [z117_0, z117_1, z117_4, z117_5, z117_6, z117_7, z117_10, z71_0, z71_1, z71_2, z71_5, z71_6, z71_7, z71_10, z71_13, z71_14, z71_15, z71_18, z71_21, z71_22, z71_23, z71_24, z71_25, z71_26, z71_29, z71_32, z71_33, z72_0, z72_1, z72_2, z72_3, z72_6, z72_7, z72_8, z72_9, z72_11, z72_12, z72_13, z72_16, sm_cti, sm_ctr, sm_ctn, sm_nbi, Option.toList_some, Option.toList_none, List.cons_append, List.nil_append, ne_eq, reduceCtorEq, not_false_eq_true, Nat.reduceLeDiff, rc87, kd, e01, g0, show nI 0 = 0 from rfl, acV, acL, if_true, if_false, not_true_eq_false, not_false_eq_true, and_true, true_and, and_false, false_and, and_self, or_true, true_or, or_false, false_or, reduceIte, iff_self, Int32.add_zero, y_10, Classical.not_not]
  · simp +decide only [z117_0, z117_1, z117_4, z117_5, z117_6, z117_7, z117_10, z71_0, z71_1, z71_2, z71_5, z71_6, z71_7, z71_10, z71_13, z71_14, z71_15, z71_18, z71_21, z71_22, z71_23, z71_24, z71_25, z71_26, z71_29, z71_32, z71_33, z72_0, z72_1, z72_2, z72_3, z72_6, z72_7, z72_8, z72_9, z72_11, z72_12, z72_13, z72_16, sm_cti, sm_ctr, sm_ctn, sm_nbi, Option.toList_some, Option.toList_none, List.cons_append, List.nil_append, ne_eq, reduceCtorEq, not_false_eq_true, Nat.reduceLeDiff, rc87, kd, e01, g1, show nI 1 = 1 from rfl, acV, acL, if_true, if_false, not_true_eq_false, not_false_eq_true, and_true, true_and, and_false, false_and, and_self, or_true, true_or, or_false, false_or, reduceIte, iff_self, Int32.add_zero, y_10, Classical.not_not]
  · simp +decide only [z117_0, z117_1, z117_4, z117_5, z117_6, z117_7, z117_10, z71_0, z71_1, z71_2, z71_5, z71_6, z71_7, z71_10, z71_13, z71_14, z71_15, z71_18, z71_21, z71_22, z71_23, z71_24, z71_25, z71_26, z71_29, z71_32, z71_33, z72_0, z72_1, z72_2, z72_3, z72_6, z72_7, z72_8, z72_9, z72_11, z72_12, z72_13, z72_16, sm_cti, sm_ctr, sm_ctn, sm_nbi, Option.toList_some, Option.toList_none, List.cons_append, List.nil_append, ne_eq, reduceCtorEq, not_false_eq_true, Nat.reduceLeDiff, rc87, kd, e01, g2, show nI 2 = 2 from rfl, acV, acL, if_true, if_false, not_true_eq_false, not_false_eq_true, and_true, true_and, and_false, false_and, and_self, or_true, true_or, or_false, false_or, reduceIte, iff_self, Int32.add_zero, y_10, Classical.not_not]
  · simp +decide only [z117_0, z117_1, z117_4, z117_5, z117_6, z117_7, z117_10, z71_0, z71_1, z71_2, z71_5, z71_6, z71_7, z71_10, z71_13, z71_14, z71_15, z71_18, z71_21, z71_22, z71_23, z71_24, z71_25, z71_26, z71_29, z71_32, z71_33, z72_0, z72_1, z72_2, z72_3, z72_6, z72_7, z72_8, z72_9, z72_11, z72_12, z72_13, z72_16, sm_cti, sm_ctr, sm_ctn, sm_nbi, Option.toList_some, Option.toList_none, List.cons_append, List.nil_append, ne_eq, reduceCtorEq, not_false_eq_true, Nat.reduceLeDiff, rc87, kd, e01, g3, show nI 3 = 3 from rfl, acV, acL, if_true, if_false, not_true_eq_false, not_false_eq_true, and_true, true_and, and_false, false_and, and_self, or_true, true_or, or_false, false_or, reduceIte, iff_self, Int32.add_zero, y_10, Classical.not_not]
theorem wt_own (I : sm_I) (u v : Int32) : sm_uI (sm_uI (wt 125 103 41 I []) 103 42 u) 103 43 v = wt 125 103 41 (sm_uI (sm_uI I 103 42 u) 103 43 v) [] := by
  rw [← wt_nil, ← wt_nil]
  funext x b
  simp only [uI_at]
  (repeat' split) <;> first | rfl | omega
theorem m_actB (d n : Nat) (I : sm_I) (J : sm_J) (K : Option Value → sm_H → Prop) {b a x : Int32} (hx : ¬ (0 ≤ b ∧ b ≤ I 103 38 - 1)) : sm_Ok (d + 3) 228 0 [.ref 103, .int b, .int a, .int x] [] (sm_SH n, I, J) K ↔ K (some (.int 0)) (sm_SH n, wt 125 103 41 I [], J) := by
  have e1 : sm_uI I 103 41 0 103 38 = I 103 38 := uI_o _ _ (by omega)
  rw [← wt_nil]
  simp only [z228_0, z228_1, z228_2, z228_5, z228_6, z228_7, z228_10, z228_13, z228_14, z228_15, z228_16, z228_17, z228_20, z228_21, z228_22, z228_25, z228_26, z228_27, z228_30, z228_31, z228_60, z228_61, z228_62, z228_65, z228_66, z228_69, z228_70, z228_71, z228_72, z228_75, z228_76, z228_79, z228_80, z228_81, z228_82, z228_85, z228_86, z228_89, z228_90, z228_91, z228_92, z228_95, z228_96, z228_99, z228_100, z228_101, sm_cti, sm_ctr, sm_ctn, sm_nbi, Option.toList_some, Option.toList_none, List.cons_append, List.nil_append, ne_eq, reduceCtorEq, not_false_eq_true, Nat.reduceLeDiff, kc103, rc103, m_isBody, e1, y_bit, hx, if_true, if_false, not_true_eq_false, not_false_eq_true, and_true, true_and, and_false, false_and, and_self, or_true, true_or, or_false, false_or, reduceIte, iff_self, Int32.add_zero, y_10, Classical.not_not]
theorem m_actX (d n : Nat) (I : sm_I) (J : sm_J) (K : Option Value → sm_H → Prop) {B b o : Nat} {a x : Int32} (hB : I 103 38 = nI B) (hB2 : B ≤ 50) (hb : b < B) (hI : I 124 b = nI o) : sm_Ok (d + 8) 228 0 [.ref 103, .int (nI b), .int a, .int x] [] (sm_SH n, I, J) K ↔
    if a = 0 then K (some (.int (acV 0 (nI o) x (nI b)))) (sm_SH n, wt 125 103 41 (sm_uI (sm_uI I 103 42 (nI o)) 103 43 (nI b)) (acL 0 (nI o)), J)
    else if a = 1 then K (some (.int (acV 1 (nI o) x (nI b)))) (sm_SH n, wt 125 103 41 (sm_uI (sm_uI I 103 42 (nI o)) 103 43 (nI b)) (acL 1 (nI o)), J)
    else if a = 2 then K (some (.int (acV 2 (nI o) x (nI b)))) (sm_SH n, wt 125 103 41 (sm_uI (sm_uI I 103 42 (nI o)) 103 43 (nI b)) (acL 2 (nI o)), J)
    else if a = 3 then K (some (.int (acV 3 (nI o) x (nI b)))) (sm_SH n, wt 125 103 41 (sm_uI (sm_uI I 103 42 (nI o)) 103 43 (nI b)) (acL 3 (nI o)), J)
    else K (some (.int 0)) (sm_SH n, wt 125 103 41 (sm_uI (sm_uI I 103 42 (nI o)) 103 43 (nI b)) [], J) := by
  have e1 : wt 125 103 41 I [] 103 38 = nI B := by rw [wt_o _ _ (by omega) (by omega), hB]
  have e2 : wt 125 103 41 I [] 124 b = nI o := by rw [wt_o _ _ (by omega) (by omega), hI]
  have hbB : (0 : Int32) ≤ nI b ∧ nI b ≤ nI B - 1 := by rw [y_pred (show B < 2 ^ 31 by omega)]; exact y_idx_of hb (by omega)
  have f42 : sm_uI (sm_uI I 103 42 (nI o)) 103 43 (nI b) 103 42 = nI o := by rw [uI_o _ _ (by omega), uI_s]
  have f43 : sm_uI (sm_uI I 103 42 (nI o)) 103 43 (nI b) 103 43 = nI b := uI_s _ _ _ _
  have w42 : wt 125 103 41 (sm_uI (sm_uI I 103 42 (nI o)) 103 43 (nI b)) [] 103 42 = nI o := by rw [wt_o _ _ (by omega) (by omega), f42]
  have g0 := fun d K => m_sg d n _ J K f43 [] (by decide) (nI o) x
  have g1 := fun d K => m_mv d n _ J K f43 f42 [] (by decide) (nI o) x
  have g2 := fun d K => m_hu d n _ J K f43 f42 [] (by decide) (nI o) x
  have g3 := fun d K => m_te d n _ J K f43 f42 [] (by decide) (nI o) x
  simp only [z228_0, z228_1, z228_2, z228_5, z228_6, z228_7, z228_10, z228_13, z228_14, z228_15, z228_16, z228_17, z228_20, z228_21, z228_22, z228_25, z228_26, z228_27, z228_30, z228_31, z228_60, z228_61, z228_62, z228_65, z228_66, z228_69, z228_70, z228_71, z228_72, z228_75, z228_76, z228_79, z228_80, z228_81, z228_82, z228_85, z228_86, z228_89, z228_90, z228_91, z228_92, z228_95, z228_96, z228_99, z228_100, z228_101, sm_cti, sm_ctr, sm_ctn, sm_nbi, Option.toList_some, Option.toList_none, List.cons_append, List.nil_append, ne_eq, reduceCtorEq, not_false_eq_true, Nat.reduceLeDiff, kc103, kc124, rc103, rf103_39, m_isBody, wt_nil 125 103 41 I, e1, e2, hbB, y_bit, y_inN (show b < 50 by omega) (by decide), nI_clamp (show b < 2 ^ 31 by omega), wt_own, w42, if_true, if_false, not_true_eq_false, not_false_eq_true, and_true, true_and, and_false, false_and, and_self, or_true, true_or, or_false, false_or, reduceIte, iff_self, Int32.add_zero, y_10, Classical.not_not]
  by_cases h0 : a = 0
  · subst h0
    simp only [z228_0, z228_1, z228_2, z228_5, z228_6, z228_7, z228_10, z228_13, z228_14, z228_15, z228_16, z228_17, z228_20, z228_21, z228_22, z228_25, z228_26, z228_27, z228_30, z228_31, z228_60, z228_61, z228_62, z228_65, z228_66, z228_69, z228_70, z228_71, z228_72, z228_75, z228_76, z228_79, z228_80, z228_81, z228_82, z228_85, z228_86, z228_89, z228_90, z228_91, z228_92, z228_95, z228_96, z228_99, z228_100, z228_101, sm_cti, sm_ctr, sm_ctn, sm_nbi, Option.toList_some, Option.toList_none, List.cons_append, List.nil_append, ne_eq, reduceCtorEq, not_false_eq_true, Nat.reduceLeDiff, kc103, rc103, w42, g0, acV, acL, if_true, if_false, not_true_eq_false, not_false_eq_true, and_true, true_and, and_false, false_and, and_self, or_true, true_or, or_false, false_or, reduceIte, iff_self, Int32.add_zero, y_10, Classical.not_not]
  · by_cases h1 : a = 1
    · subst h1
      simp +decide only [z228_0, z228_1, z228_2, z228_5, z228_6, z228_7, z228_10, z228_13, z228_14, z228_15, z228_16, z228_17, z228_20, z228_21, z228_22, z228_25, z228_26, z228_27, z228_30, z228_31, z228_60, z228_61, z228_62, z228_65, z228_66, z228_69, z228_70, z228_71, z228_72, z228_75, z228_76, z228_79, z228_80, z228_81, z228_82, z228_85, z228_86, z228_89, z228_90, z228_91, z228_92, z228_95, z228_96, z228_99, z228_100, z228_101, sm_cti, sm_ctr, sm_ctn, sm_nbi, Option.toList_some, Option.toList_none, List.cons_append, List.nil_append, ne_eq, reduceCtorEq, not_false_eq_true, Nat.reduceLeDiff, kc103, rc103, w42, g1, acV, acL, if_true, if_false, not_true_eq_false, not_false_eq_true, and_true, true_and, and_false, false_and, and_self, or_true, true_or, or_false, false_or, reduceIte, iff_self, Int32.add_zero, y_10, Classical.not_not]
    · by_cases h2 : a = 2
      · subst h2
        simp +decide only [z228_0, z228_1, z228_2, z228_5, z228_6, z228_7, z228_10, z228_13, z228_14, z228_15, z228_16, z228_17, z228_20, z228_21, z228_22, z228_25, z228_26, z228_27, z228_30, z228_31, z228_60, z228_61, z228_62, z228_65, z228_66, z228_69, z228_70, z228_71, z228_72, z228_75, z228_76, z228_79, z228_80, z228_81, z228_82, z228_85, z228_86, z228_89, z228_90, z228_91, z228_92, z228_95, z228_96, z228_99, z228_100, z228_101, sm_cti, sm_ctr, sm_ctn, sm_nbi, Option.toList_some, Option.toList_none, List.cons_append, List.nil_append, ne_eq, reduceCtorEq, not_false_eq_true, Nat.reduceLeDiff, kc103, rc103, w42, g2, acV, acL, if_true, if_false, not_true_eq_false, not_false_eq_true, and_true, true_and, and_false, false_and, and_self, or_true, true_or, or_false, false_or, reduceIte, iff_self, Int32.add_zero, y_10, Classical.not_not]
      · by_cases h3 : a = 3
        · subst h3
          simp +decide only [z228_0, z228_1, z228_2, z228_5, z228_6, z228_7, z228_10, z228_13, z228_14, z228_15, z228_16, z228_17, z228_20, z228_21, z228_22, z228_25, z228_26, z228_27, z228_30, z228_31, z228_60, z228_61, z228_62, z228_65, z228_66, z228_69, z228_70, z228_71, z228_72, z228_75, z228_76, z228_79, z228_80, z228_81, z228_82, z228_85, z228_86, z228_89, z228_90, z228_91, z228_92, z228_95, z228_96, z228_99, z228_100, z228_101, sm_cti, sm_ctr, sm_ctn, sm_nbi, Option.toList_some, Option.toList_none, List.cons_append, List.nil_append, ne_eq, reduceCtorEq, not_false_eq_true, Nat.reduceLeDiff, kc103, rc103, w42, g3, acV, acL, if_true, if_false, not_true_eq_false, not_false_eq_true, and_true, true_and, and_false, false_and, and_self, or_true, true_or, or_false, false_or, reduceIte, iff_self, Int32.add_zero, y_10, Classical.not_not]
        · simp only [h0, h1, h2, h3, z228_0, z228_1, z228_2, z228_5, z228_6, z228_7, z228_10, z228_13, z228_14, z228_15, z228_16, z228_17, z228_20, z228_21, z228_22, z228_25, z228_26, z228_27, z228_30, z228_31, z228_60, z228_61, z228_62, z228_65, z228_66, z228_69, z228_70, z228_71, z228_72, z228_75, z228_76, z228_79, z228_80, z228_81, z228_82, z228_85, z228_86, z228_89, z228_90, z228_91, z228_92, z228_95, z228_96, z228_99, z228_100, z228_101, sm_cti, sm_ctr, sm_ctn, sm_nbi, Option.toList_some, Option.toList_none, List.cons_append, List.nil_append, ne_eq, reduceCtorEq, not_false_eq_true, Nat.reduceLeDiff, if_true, if_false, not_true_eq_false, not_false_eq_true, and_true, true_and, and_false, false_and, and_self, or_true, true_or, or_false, false_or, reduceIte, iff_self, Int32.add_zero, y_10, Classical.not_not]
theorem pr_act {n B : Nat} {xs : Nat → Int32} {I : sm_I} {J : sm_J} (hR : iv_ro xs I) (hT : iv_tu B I) (b a x : Int32) : pr n I J 117 [.ref 26, .int b, .int a, .int x] 228 [.ref 103, .int b, .int a, .int x] (fun I2 J2 => ag 7 I I2 ∧ J2 = J ∧ iv_tu B I2) := by
  obtain ⟨hB, t1, t2, t3, -⟩ := id hT
  have fin : ∀ (L : List Int32) (hL : L.length < 24) (I3 : sm_I), (∀ q c, ¬ (q = 103 ∧ (c = 42 ∨ c = 43)) → I3 q c = wt 88 87 2 I L q c) → ag 7 I (wt 125 103 41 I3 L) ∧ J = J ∧ iv_tu B (wt 125 103 41 I3 L) := by
    intro L hL I3 h3
    have := iv_tu_wt (I2 := wt 125 103 41 I3 L) hT L hL (fun q c n1 n2 n3 n4 => by rw [wt_o _ _ (by omega) n2, h3 q c (by omega), wt_o _ _ n3 n1]) (by rw [wt_o _ _ (by omega) (by omega), h3 _ _ (by omega), wt_f]) (wt_f _ _ _ _ _) (fun j hj => ⟨by rw [wt_o _ _ (by omega) (by omega), h3 _ _ (by omega), wt_at _ _ (by omega) hj], wt_at _ _ (by omega) hj⟩)
    exact ⟨this.1, rfl, this.2⟩
  have kp : ∀ (L : List Int32) (q c : Nat), (q = 103 ∧ c = 38) ∨ q = 124 → wt 88 87 2 I L q c = I q c := fun L q c hq => wt_o _ _ (by omega) (by omega)
  have hu : ∀ (I3 : sm_I) (u v : Int32) (q c : Nat), ¬ (q = 103 ∧ (c = 42 ∨ c = 43)) → sm_uI (sm_uI I3 103 42 u) 103 43 v q c = I3 q c := fun I3 u v q c hq => by rw [uI_o _ _ (by omega), uI_o _ _ (by omega)]
  have hb1 : (0 ≤ b ∧ b ≤ I 103 38 - 1) ↔ (0 ≤ b ∧ b < I 87 1) := by rw [t1, t2, y_pred (show B < 2 ^ 31 by omega)]
  by_cases h1 : 0 ≤ b ∧ b < I 87 1
  · rw [t1] at h1
    obtain ⟨b', hb', rfl⟩ := y_idx (show B < 2 ^ 31 by omega) h1
    obtain ⟨o, ho, o1, o2⟩ := t3 b' hb'
    by_cases h2 : 0 ≤ a ∧ a ≤ 3
    · obtain ⟨a', ha', rfl⟩ := nI_of2 (M := 3) (n := 3) (by decide) (Int32.not_lt.mpr h2.1) h2.2
      refine ⟨.int (acV a' (nI o) x (nI b')), wt 88 87 2 I (acL a' (nI o)), J, wt 125 103 41 (sm_uI (sm_uI (wt 88 87 2 I (acL a' (nI o))) 103 42 (nI o)) 103 43 (nI b')) (acL a' (nI o)), J, fun d K => ?_, fun d K => ?_, ?_⟩
      · exact c_actX hR (d + 184) n J K t1 hB hb' o1 ho (by omega) x
      · refine Iff.trans (m_actX (d + 192) n _ J K (B := B) (by rw [kp _ _ _ (Or.inl ⟨rfl, rfl⟩), t2]) hB hb' (by rw [kp _ _ _ (Or.inr rfl), o2])) ?_
        rcases (show a' = 0 ∨ a' = 1 ∨ a' = 2 ∨ a' = 3 by omega) with rfl | rfl | rfl | rfl
        · rw [if_pos (by decide)]
        · rw [if_neg (by decide), if_pos (by decide)]
        · rw [if_neg (by decide), if_neg (by decide), if_pos (by decide)]
        · rw [if_neg (by decide), if_neg (by decide), if_neg (by decide), if_pos (by decide)]
      · exact fin _ (acL_len _ _) _ (hu _ _ _)
    · refine ⟨.int 0, wt 88 87 2 I [], J, wt 125 103 41 (sm_uI (sm_uI (wt 88 87 2 I []) 103 42 (nI o)) 103 43 (nI b')) [], J, fun d K => ?_, fun d K => ?_, ?_⟩
      · exact c_actB (d + 197) n I J K (fun z => h2 z.2)
      · refine Iff.trans (m_actX (d + 192) n _ J K (B := B) (by rw [kp _ _ _ (Or.inl ⟨rfl, rfl⟩), t2]) hB hb' (by rw [kp _ _ _ (Or.inr rfl), o2])) ?_
        rw [if_neg, if_neg, if_neg, if_neg]
        · rintro rfl
          exact h2 (by decide)
        · rintro rfl
          exact h2 (by decide)
        · rintro rfl
          exact h2 (by decide)
        · rintro rfl
          exact h2 (by decide)
      · exact fin _ (by decide) _ (hu _ _ _)
  · refine ⟨.int 0, wt 88 87 2 I [], J, wt 125 103 41 (wt 88 87 2 I []) [], J, fun d K => ?_, fun d K => ?_, ?_⟩
    · exact c_actB (d + 197) n I J K (fun z => h1 z.1)
    · refine m_actB (d + 197) n _ J K (fun z => h1 (hb1.mp ?_))
      rw [kp _ _ _ (Or.inl ⟨rfl, rfl⟩)] at z
      exact z
    · exact fin _ (by decide) _ (fun q c _ => rfl)
