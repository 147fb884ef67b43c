/-! leaves of the class and of the reference -/
theorem y_10 : ((1 : Int32) = 0) = False := by decide
theorem y_lt (x y : Int32) : (x < y) = (¬ y ≤ x) := propext Int32.not_le.symm
theorem y_lt64 (x y : Int64) : (x < y) = (¬ y ≤ x) := propext Int64.not_le.symm
theorem y_inN {k c : Nat} (h : k < c) (hc : c < 2 ^ 31) : sm_in (nI k) c = true := by
  have := nI_in h hc
  simpa [sm_in] using this
theorem y_bit (P : Prop) [Decidable P] : ((if P then (1 : Int32) else 0) = 0) = (¬ P) := by
  by_cases h : P
  · simp [h]
  · simp [h]
theorem y_within (d n : Nat) (I : sm_I) (J : sm_J) (K : Option Value → sm_H → Prop) (v t : Int32) : sm_Ok d 126 0 [.int v, .int t] [] (sm_SH n, I, J) K ↔ K (some (.int (if 0 ≤ v ∧ v ≤ t then 1 else 0))) (sm_SH n, I, J) := by
  simp only [z126_14_0, z126_14_1, z126_0, z126_1, z126_4, z126_5, z126_6, z126_9, z126_10, z126_13, z126_14, sm_cti, sm_ctr, sm_ctn, sm_nbi, Option.toList_some, Option.toList_none, List.cons_append, List.nil_append, ne_eq, reduceCtorEq, not_false_eq_true, Nat.reduceLeDiff, y_lt]
  by_cases h1 : (0 : Int32) ≤ v <;> by_cases h2 : v ≤ t <;> simp only [h1, h2, if_true, if_false, not_true_eq_false, not_false_eq_true, and_true, true_and, and_false, false_and, and_self, or_true, true_or, or_false, false_or, reduceIte, iff_self, Int32.add_zero, y_10]
theorem y_isShelf (d n : Nat) (I : sm_I) (J : sm_J) (K : Option Value → sm_H → Prop) (v : Int32) : sm_Ok (d + 1) 127 0 [.int v] [] (sm_SH n, I, J) K ↔ K (some (.int (if 0 ≤ v ∧ v ≤ 5 then 1 else 0))) (sm_SH n, I, J) := by
  simp only [z127_5_0, z127_5_1, z127_0, z127_1, z127_2, z127_5, sm_cti, sm_ctr, sm_ctn, sm_nbi, Option.toList_some, Option.toList_none, List.cons_append, List.nil_append, ne_eq, reduceCtorEq, not_false_eq_true, Nat.reduceLeDiff, y_within]
theorem y_isOne (d n : Nat) (I : sm_I) (J : sm_J) (K : Option Value → sm_H → Prop) (x : Int32) : sm_Ok d 6 0 [.ref 34, .int x] [] (sm_SH n, I, J) K ↔ K (some (.int (if 0 ≤ x ∧ x < I 34 6 then 1 else 0))) (sm_SH n, I, J) := by
  simp only [z6_17_0, z6_17_1, z6_0, z6_1, z6_4, z6_5, z6_6, z6_9, z6_12, z6_13, z6_16, z6_17, sm_cti, sm_ctr, sm_ctn, sm_nbi, Option.toList_some, Option.toList_none, List.cons_append, List.nil_append, ne_eq, reduceCtorEq, not_false_eq_true, Nat.reduceLeDiff, kc34, y_lt]
  by_cases h1 : (0 : Int32) ≤ x <;> by_cases h2 : I 34 6 ≤ x <;> simp only [h1, h2, if_true, if_false, not_true_eq_false, not_false_eq_true, and_true, true_and, and_false, false_and, and_self, or_true, true_or, or_false, false_or, reduceIte, iff_self, Int32.add_zero, y_10]
theorem y_isDebt (d n : Nat) (I : sm_I) (J : sm_J) (K : Option Value → sm_H → Prop) (x : Int32) : sm_Ok d 7 0 [.ref 34, .int x] [] (sm_SH n, I, J) K ↔ K (some (.int (if 0 ≤ x ∧ x < I 34 7 then 1 else 0))) (sm_SH n, I, J) := by
  simp only [z7_17_0, z7_17_1, z7_0, z7_1, z7_4, z7_5, z7_6, z7_9, z7_12, z7_13, z7_16, z7_17, sm_cti, sm_ctr, sm_ctn, sm_nbi, Option.toList_some, Option.toList_none, List.cons_append, List.nil_append, ne_eq, reduceCtorEq, not_false_eq_true, Nat.reduceLeDiff, kc34, y_lt]
  by_cases h1 : (0 : Int32) ≤ x <;> by_cases h2 : I 34 7 ≤ x <;> simp only [h1, h2, if_true, if_false, not_true_eq_false, not_false_eq_true, and_true, true_and, and_false, false_and, and_self, or_true, true_or, or_false, false_or, reduceIte, iff_self, Int32.add_zero, y_10]
/-- whether one lives near a place -/
def y_near (a b c : Int32) : Prop := a - b ≤ c ∧ -(a - b) ≤ c
theorem y_isNear (d n : Nat) (I : sm_I) (J : sm_J) (K : Option Value → sm_H → Prop) (w : Int32) {o : Nat} (ho : o < 8) : sm_Ok d 10 0 [.ref 34, .int w, .int (nI o), .null] [] (sm_SH n, I, J) K ↔ K (some (.int (if I 35 o - w ≤ I 34 8 ∧ -(I 35 o - w) ≤ I 34 8 then 1 else 0))) (sm_SH n, I, J) := by
  simp only [z10_31_0, z10_31_1, z10_0, z10_1, z10_4, z10_5, z10_6, z10_7, z10_8, z10_9, z10_10, z10_11, z10_14, z10_17, z10_18, z10_19, z10_20, z10_23, z10_26, z10_27, z10_30, z10_31, sm_cti, sm_ctr, sm_ctn, sm_nbi, Option.toList_some, Option.toList_none, List.cons_append, List.nil_append, ne_eq, reduceCtorEq, not_false_eq_true, Nat.reduceLeDiff, kc34, kc35, rf34_0, y_inN ho (by decide), nI_clamp (show o < 2 ^ 31 by omega), y_lt, true_and]
  by_cases h1 : I 35 o - w ≤ I 34 8 <;> by_cases h2 : -(I 35 o - w) ≤ I 34 8 <;> simp only [h1, h2, if_true, if_false, not_true_eq_false, not_false_eq_true, and_true, true_and, and_false, false_and, and_self, or_true, true_or, or_false, false_or, reduceIte, iff_self, Int32.add_zero, y_10]
theorem m_within (d n : Nat) (I : sm_I) (J : sm_J) (K : Option Value → sm_H → Prop) (v a b : Int64) : sm_Ok d 148 0 [.long v, .null, .long a, .null, .long b, .null] [] (sm_SH n, I, J) K ↔ K (some (.int (if a ≤ v ∧ v ≤ b then 1 else 0))) (sm_SH n, I, J) := by
  simp only [z148_18_0, z148_18_1, z148_0, z148_1, z148_2, z148_3, z148_6, z148_7, z148_9, z148_10, z148_13, z148_14, z148_17, z148_18, sm_cti, sm_ctr, sm_ctn, sm_nbi, Option.toList_some, Option.toList_none, List.cons_append, List.nil_append, ne_eq, reduceCtorEq, not_false_eq_true, Nat.reduceLeDiff, lg_cmp_lt, lg_cmp_gt, y_lt64]
  by_cases h1 : a ≤ v <;> by_cases h2 : v ≤ b <;> simp only [h1, h2, if_true, if_false, not_true_eq_false, not_false_eq_true, and_true, true_and, and_false, false_and, and_self, or_true, true_or, or_false, false_or, reduceIte, iff_self, Int32.add_zero, y_10]
theorem m_isOne (d n : Nat) (I : sm_I) (J : sm_J) (K : Option Value → sm_H → Prop) (v : Int64) : sm_Ok (d + 1) 155 0 [.ref 103, .long v, .null] [] (sm_SH n, I, J) K ↔ K (some (.int (if 0 ≤ v ∧ v ≤ (I 103 6 - 1).toInt64 then 1 else 0))) (sm_SH n, I, J) := by
  simp only [z155_12_0, z155_12_1, z155_0, z155_1, z155_2, z155_3, z155_6, z155_7, z155_8, z155_9, z155_12, sm_cti, sm_ctr, sm_ctn, sm_nbi, Option.toList_some, Option.toList_none, List.cons_append, List.nil_append, ne_eq, reduceCtorEq, not_false_eq_true, Nat.reduceLeDiff, kc103, m_within]
