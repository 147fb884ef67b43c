/-! leaves of the reference -/
theorem y_inC {x : Int32} {c : Nat} (hc : c < 2 ^ 30) : (sm_in x (c + 1) = true) = (0 ≤ x ∧ x ≤ nI c) := by
  apply propext
  constructor
  · intro h
    obtain ⟨k, hk, rfl⟩ := vp_in_of (x := x) (n := c + 1) (sm_in_of h).1 (by omega)
    exact ⟨nI_pos' (by omega), nI_le (by omega) (by omega)⟩
  · rintro ⟨h1, h2⟩
    obtain ⟨k, hk, rfl⟩ := nI_of2 (M := nI c) (n := c) (nI_toInt (by omega)) (Int32.not_lt.mpr h1) h2
    exact y_inN (by omega) (by omega)
theorem y_in6 (x : Int32) : (sm_in x 6 = true) = (0 ≤ x ∧ x ≤ 5) := y_inC (c := 5) (by decide)
theorem m_isDebt (d n : Nat) (I : sm_I) (J : sm_J) (K : Option Value → sm_H → Prop) (v : Int64) : sm_Ok (d + 1) 156 0 [.ref 103, .long v, .null] [] (sm_SH n, I, J) K ↔ K (some (.int (if 0 ≤ v ∧ v ≤ (I 103 7 - 1).toInt64 then 1 else 0))) (sm_SH n, I, J) := by
  simp only [z156_12_0, z156_12_1, z156_0, z156_1, z156_2, z156_3, z156_6, z156_7, z156_8, z156_9, z156_12, sm_cti, sm_ctr, sm_ctn, sm_nbi, Option.toList_some, Option.toList_none, List.cons_append, List.nil_append, ne_eq, reduceCtorEq, not_false_eq_true, Nat.reduceLeDiff, kc103, m_within]
theorem m_isShelf (d n : Nat) (I : sm_I) (J : sm_J) (K : Option Value → sm_H → Prop) (x : Int32) : sm_Ok (d + 1) 230 0 [.int x] [] (sm_SH n, I, J) K ↔ K (some (.int (if 0 ≤ x ∧ x ≤ 5 then 1 else 0))) (sm_SH n, I, J) := by
  simp only [z230_9_0, z230_9_1, z230_0, z230_1, z230_2, z230_3, z230_6, z230_9, sm_cti, sm_ctr, sm_ctn, sm_nbi, Option.toList_some, Option.toList_none, List.cons_append, List.nil_append, ne_eq, reduceCtorEq, not_false_eq_true, Nat.reduceLeDiff, m_within, y_w0, y_v5]
theorem m_isBody (d n : Nat) (I : sm_I) (J : sm_J) (K : Option Value → sm_H → Prop) (x : Int32) : sm_Ok (d + 1) 219 0 [.ref 103, .int x] [] (sm_SH n, I, J) K ↔ K (some (.int (if 0 ≤ x ∧ x ≤ I 103 38 - 1 then 1 else 0))) (sm_SH n, I, J) := by
  simp only [z219_13_0, z219_13_1, z219_0, z219_1, z219_2, z219_3, z219_4, z219_7, z219_8, z219_9, z219_10, z219_13, sm_cti, sm_ctr, sm_ctn, sm_nbi, Option.toList_some, Option.toList_none, List.cons_append, List.nil_append, ne_eq, reduceCtorEq, not_false_eq_true, Nat.reduceLeDiff, kc103, m_within, y_w0, y_wid]
theorem m_least (d n : Nat) (I : sm_I) (J : sm_J) (K : Option Value → sm_H → Prop) (a b : Int32) : sm_Ok d 182 0 [.int a, .int b] [] (sm_SH n, I, J) K ↔ K (some (.int (if a < b then a else b))) (sm_SH n, I, J) := by
  simp only [z182_0, z182_1, z182_2, z182_5, z182_6, z182_9, z182_10, sm_cti, sm_ctr, sm_ctn, sm_nbi, Option.toList_some, Option.toList_none, List.cons_append, List.nil_append, ne_eq, reduceCtorEq, not_false_eq_true, Nat.reduceLeDiff, y_lt]
  by_cases h1 : b ≤ a <;> simp only [h1, if_true, if_false, not_true_eq_false, not_false_eq_true, and_true, true_and, and_false, false_and, and_self, or_true, true_or, or_false, false_or, reduceIte, iff_self, Int32.add_zero, y_10]
theorem m_areNear (d n : Nat) (I : sm_I) (J : sm_J) (K : Option Value → sm_H → Prop) (a b : Int32) : sm_Ok d 180 0 [.ref 103, .int a, .int b] [] (sm_SH n, I, J) K ↔ K (some (.int (if (if a ≤ b then b - a else a - b) ≤ I 104 52 then 1 else 0))) (sm_SH n, I, J) := by
  have h52 : sm_in 52 54 = true := by decide
  have c52 : (52 : Int32).toNatClampNeg = 52 := by decide
  simp only [z180_29_0, z180_29_1, z180_0, z180_1, z180_2, z180_5, z180_6, z180_7, z180_8, z180_11, z180_12, z180_13, z180_14, z180_15, z180_18, z180_20, z180_21, z180_24, z180_25, z180_28, z180_29, sm_cti, sm_ctr, sm_ctn, sm_nbi, Option.toList_some, Option.toList_none, List.cons_append, List.nil_append, ne_eq, reduceCtorEq, not_false_eq_true, Nat.reduceLeDiff, kc103, kc104, rf103_0, y_lt, h52, c52, true_and]
  by_cases h1 : a ≤ b
  · simp only [h1, if_true, if_false, not_true_eq_false, not_false_eq_true, and_true, true_and, and_false, false_and, and_self, or_true, true_or, or_false, false_or, reduceIte, iff_self, Int32.add_zero, y_10]
    by_cases h2 : b - a ≤ I 104 52 <;> simp only [h2, if_true, if_false, not_true_eq_false, not_false_eq_true, and_true, true_and, and_false, false_and, and_self, or_true, true_or, or_false, false_or, reduceIte, iff_self, Int32.add_zero, y_10]
  · simp only [h1, if_true, if_false, not_true_eq_false, not_false_eq_true, and_true, true_and, and_false, false_and, and_self, or_true, true_or, or_false, false_or, reduceIte, iff_self, Int32.add_zero, y_10]
    by_cases h2 : a - b ≤ I 104 52 <;> simp only [h2, if_true, if_false, not_true_eq_false, not_false_eq_true, and_true, true_and, and_false, false_and, and_self, or_true, true_or, or_false, false_or, reduceIte, iff_self, Int32.add_zero, y_10]
theorem m_isIn (d n : Nat) (I : sm_I) (J : sm_J) (K : Option Value → sm_H → Prop) (s k : Int32) : sm_Ok d 149 0 [.int s, .int k] [] (sm_SH n, I, J) K ↔ K (some (.int (if (s >>> (k &&& 31)) &&& 1 = 1 then 1 else 0))) (sm_SH n, I, J) := by
  simp only [z149_14_0, z149_14_1, z149_0, z149_1, z149_2, z149_3, z149_4, z149_5, z149_6, z149_9, z149_10, z149_13, z149_14, sm_cti, sm_ctr, sm_ctn, sm_nbi, Option.toList_some, Option.toList_none, List.cons_append, List.nil_append, ne_eq, reduceCtorEq, not_false_eq_true, Nat.reduceLeDiff]
  by_cases h1 : (s >>> (k &&& 31)) &&& 1 = 1 <;> simp only [h1, if_true, if_false, not_true_eq_false, not_false_eq_true, and_true, true_and, and_false, false_and, and_self, or_true, true_or, or_false, false_or, reduceIte, iff_self, Int32.add_zero, y_10]
theorem m_kindOf (d n : Nat) (I : sm_I) (J : sm_J) (K : Option Value → sm_H → Prop) {k : Nat} (hk : k < 50) : sm_Ok d 220 0 [.ref 103, .int (nI k)] [] (sm_SH n, I, J) K ↔ K (some (.int (I 124 k))) (sm_SH n, I, J) := by
  simp only [z220_0, z220_1, z220_4, z220_5, z220_6, sm_cti, sm_ctr, sm_ctn, sm_nbi, Option.toList_some, Option.toList_none, List.cons_append, List.nil_append, ne_eq, reduceCtorEq, not_false_eq_true, Nat.reduceLeDiff, kc103, kc124, rf103_39, y_inN hk (by decide), nI_clamp (show k < 2 ^ 31 by omega), true_and]
def y_up (k : Int32) : Int32 := if k = 3 then 2 else if k = 4 then 1 else if k = 5 then 3 else if k = 7 then 4 else 0
theorem m_above1 (d n : Nat) (I : sm_I) (J : sm_J) (K : Option Value → sm_H → Prop) (k : Int32) : sm_Ok d 222 0 [.int k] [] (sm_SH n, I, J) K ↔ K (some (.int (y_up k))) (sm_SH n, I, J) := by
  simp only [z222_0, z222_1, z222_2, z222_5, z222_6, z222_9, z222_10, z222_11, z222_14, z222_15, z222_18, z222_19, z222_20, z222_23, z222_24, z222_27, z222_28, z222_30, z222_33, z222_34, z222_37, z222_38, sm_cti, sm_ctr, sm_ctn, sm_nbi, Option.toList_some, Option.toList_none, List.cons_append, List.nil_append, ne_eq, reduceCtorEq, not_false_eq_true, Nat.reduceLeDiff, y_up]
  (repeat' split) <;> simp_all
/-- which sort of row a shelf of the reference holds -/
theorem m_rowIs (d n : Nat) (I : sm_I) (J : sm_J) (K : Option Value → sm_H → Prop) (x t : Int32) : sm_Ok (d + 2) 185 0 [.ref 103, .int x, .int t] [] (sm_SH n, I, J) K ↔ K (some (.int (if 0 ≤ x ∧ x ≤ 5 then (if I 126 x.toNatClampNeg < 0 then -11 else if I 126 x.toNatClampNeg = 50 + t then 1 else -12) else -1))) (sm_SH n, I, J) := by
  simp only [z185_0, z185_1, z185_4, z185_7, z185_8, z185_11, z185_12, z185_15, z185_16, z185_17, z185_20, z185_22, z185_25, z185_26, z185_29, z185_30, z185_31, z185_33, z185_34, z185_35, z185_38, z185_39, z185_42, z185_44, sm_cti, sm_ctr, sm_ctn, sm_nbi, Option.toList_some, Option.toList_none, List.cons_append, List.nil_append, ne_eq, reduceCtorEq, not_false_eq_true, Nat.reduceLeDiff, kc103, kc126, rf103_44, m_isShelf, y_bit, y_in6, y_lt]
  (repeat' split) <;> simp_all
theorem m_refusal (d n : Nat) (I : sm_I) (J : sm_J) (K : Option Value → sm_H → Prop) (x i : Int32) : sm_Ok (d + 2) 233 0 [.ref 103, .int x, .int i] [] (sm_SH n, I, J) K ↔ K (some (.int (if 0 ≤ x ∧ x ≤ 5 then (if I 126 x.toNatClampNeg < 0 then -11 else if I 126 x.toNatClampNeg < 50 then -12 else if 0 ≤ i ∧ i < I 127 x.toNatClampNeg then 0 else -13) else -1))) (sm_SH n, I, J) := by
  simp only [z233_0, z233_1, z233_4, z233_7, z233_8, z233_9, z233_10, z233_13, z233_14, z233_15, z233_18, z233_20, z233_21, z233_22, z233_25, z233_26, z233_27, z233_29, z233_32, z233_34, z233_35, z233_36, z233_39, z233_40, z233_41, z233_44, z233_45, z233_46, z233_49, z233_50, z233_53, z233_55, sm_cti, sm_ctr, sm_ctn, sm_nbi, Option.toList_some, Option.toList_none, List.cons_append, List.nil_append, ne_eq, reduceCtorEq, not_false_eq_true, Nat.reduceLeDiff, kc103, kc126, kc127, rf103_44, rf103_45, m_isShelf, y_bit, y_in6, y_lt]
  by_cases h1 : (0 : Int32) ≤ x ∧ x ≤ 5
  · simp only [h1, if_true, if_false, not_true_eq_false, not_false_eq_true, and_true, true_and, and_false, false_and, and_self, or_true, true_or, or_false, false_or, reduceIte, iff_self, Int32.add_zero, y_10]
    by_cases h2 : (0 : Int32) ≤ I 126 x.toNatClampNeg
    · by_cases h3 : (50 : Int32) ≤ I 126 x.toNatClampNeg
      · by_cases h4 : (0 : Int32) ≤ i <;> by_cases h5 : I 127 x.toNatClampNeg ≤ i <;> simp only [h2, h3, h4, h5, if_true, if_false, not_true_eq_false, not_false_eq_true, and_true, true_and, and_false, false_and, and_self, or_true, true_or, or_false, false_or, reduceIte, iff_self, Int32.add_zero, y_10]
      · simp only [h2, h3, if_true, if_false, not_true_eq_false, not_false_eq_true, and_true, true_and, and_false, false_and, and_self, or_true, true_or, or_false, false_or, reduceIte, iff_self, Int32.add_zero, y_10]
    · simp only [h2, if_true, if_false, not_true_eq_false, not_false_eq_true, and_true, true_and, and_false, false_and, and_self, or_true, true_or, or_false, false_or, reduceIte, iff_self, Int32.add_zero, y_10]
  · simp only [h1, if_true, if_false, not_true_eq_false, not_false_eq_true, and_true, true_and, and_false, false_and, and_self, or_true, true_or, or_false, false_or, reduceIte, iff_self, Int32.add_zero, y_10]
