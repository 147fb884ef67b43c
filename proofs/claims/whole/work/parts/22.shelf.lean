/-! the class's Shelf -/
/-- the cell of the s-th shelf -/
abbrev y_sc (s : Nat) : Nat := 91 + 2 * s
theorem y_shelf {s : Nat} (hs : s < 6) : sm_kc (91 + 2 * s) = (0, 6) ∧ sm_rf (91 + 2 * s) 0 = 92 + 2 * s ∧ sm_kc (92 + 2 * s) = (2, 60) := by
  rcases (show s = 0 ∨ s = 1 ∨ s = 2 ∨ s = 3 ∨ s = 4 ∨ s = 5 by omega) with rfl | rfl | rfl | rfl | rfl | rfl
  · exact ⟨kc91, rf91_0, kc92⟩
  · exact ⟨kc93, rf93_0, kc94⟩
  · exact ⟨kc95, rf95_0, kc96⟩
  · exact ⟨kc97, rf97_0, kc98⟩
  · exact ⟨kc99, rf99_0, kc100⟩
  · exact ⟨kc101, rf101_0, kc102⟩
theorem y_isEmpty (d n : Nat) (I : sm_I) (J : sm_J) (K : Option Value → sm_H → Prop) {q : Nat} (hq : sm_kc q = (0, 6)) : sm_Ok d 49 0 [.ref q] [] (sm_SH n, I, J) K ↔ K (some (.int (if ¬ 0 ≤ I q 1 ∧ I q 2 = -1 then 1 else 0))) (sm_SH n, I, J) := by
  simp only [z49_20_0, z49_20_1, z49_0, z49_1, z49_4, z49_7, z49_8, z49_11, z49_12, z49_15, z49_16, z49_19, z49_20, sm_cti, sm_ctr, sm_ctn, sm_nbi, Option.toList_some, Option.toList_none, List.cons_append, List.nil_append, ne_eq, reduceCtorEq, not_false_eq_true, Nat.reduceLeDiff, hq, y_lt]
  by_cases h1 : 0 ≤ I q 1 <;> by_cases h2 : I q 2 = -1 <;> simp only [h1, h2, if_true, if_false, not_true_eq_false, not_false_eq_true, and_true, true_and, and_false, false_and, and_self, or_true, true_or, or_false, false_or, reduceIte, iff_self, Int32.add_zero, y_10]
theorem y_isTune (d n : Nat) (I : sm_I) (J : sm_J) (K : Option Value → sm_H → Prop) {q : Nat} (hq : sm_kc q = (0, 6)) : sm_Ok d 50 0 [.ref q] [] (sm_SH n, I, J) K ↔ K (some (.int (if 0 ≤ I q 1 then 1 else 0))) (sm_SH n, I, J) := by
  simp only [z50_12_0, z50_12_1, z50_0, z50_1, z50_4, z50_7, z50_8, z50_11, z50_12, sm_cti, sm_ctr, sm_ctn, sm_nbi, Option.toList_some, Option.toList_none, List.cons_append, List.nil_append, ne_eq, reduceCtorEq, not_false_eq_true, Nat.reduceLeDiff, hq, y_lt]
  by_cases h1 : 0 ≤ I q 1 <;> simp only [h1, if_true, if_false, not_true_eq_false, not_false_eq_true, and_true, true_and, and_false, false_and, and_self, or_true, true_or, or_false, false_or, reduceIte, iff_self, Int32.add_zero, y_10]
theorem y_isRow (d n : Nat) (I : sm_I) (J : sm_J) (K : Option Value → sm_H → Prop) {q : Nat} (hq : sm_kc q = (0, 6)) : sm_Ok d 51 0 [.ref q] [] (sm_SH n, I, J) K ↔ K (some (.int (if ¬ I q 2 = -1 then 1 else 0))) (sm_SH n, I, J) := by
  simp only [z51_13_0, z51_13_1, z51_0, z51_1, z51_4, z51_5, z51_8, z51_9, z51_12, z51_13, sm_cti, sm_ctr, sm_ctn, sm_nbi, Option.toList_some, Option.toList_none, List.cons_append, List.nil_append, ne_eq, reduceCtorEq, not_false_eq_true, Nat.reduceLeDiff, hq]
  by_cases h1 : I q 2 = -1 <;> simp only [h1, if_true, if_false, not_true_eq_false, not_false_eq_true, and_true, true_and, and_false, false_and, and_self, or_true, true_or, or_false, false_or, reduceIte, iff_self, Int32.add_zero, y_10]
theorem y_isRowOf (d n : Nat) (I : sm_I) (J : sm_J) (K : Option Value → sm_H → Prop) {q : Nat} (hq : sm_kc q = (0, 6)) (w : Int32) : sm_Ok (d + 1) 52 0 [.ref q, .int w] [] (sm_SH n, I, J) K ↔ K (some (.int (if ¬ I q 2 = -1 ∧ I q 2 = w then 1 else 0))) (sm_SH n, I, J) := by
  simp only [z52_20_0, z52_20_1, z52_0, z52_1, z52_4, z52_7, z52_8, z52_11, z52_12, z52_15, z52_16, z52_19, z52_20, sm_cti, sm_ctr, sm_ctn, sm_nbi, Option.toList_some, Option.toList_none, List.cons_append, List.nil_append, ne_eq, reduceCtorEq, not_false_eq_true, Nat.reduceLeDiff, hq, sm_rc_of hq, y_isRow _ _ _ _ _ hq, y_bit]
  generalize I q 2 = s2
  by_cases h1 : s2 = -1
  · subst h1
    simp only [if_true, if_false, not_true_eq_false, not_false_eq_true, and_true, true_and, and_false, false_and, and_self, or_true, true_or, or_false, false_or, reduceIte, iff_self, Int32.add_zero, y_10]
  · by_cases h2 : s2 = w
    · subst h2
      simp only [h1, if_true, if_false, not_true_eq_false, not_false_eq_true, and_true, true_and, and_false, false_and, and_self, or_true, true_or, or_false, false_or, reduceIte, iff_self, Int32.add_zero, y_10]
    · simp only [h1, h2, if_true, if_false, not_true_eq_false, not_false_eq_true, and_true, true_and, and_false, false_and, and_self, or_true, true_or, or_false, false_or, reduceIte, iff_self, Int32.add_zero, y_10]
theorem y_hold (d n : Nat) (I : sm_I) (J : sm_J) (K : Option Value → sm_H → Prop) {q : Nat} (hq : sm_kc q = (0, 6)) (b : Int32) : sm_Ok d 53 0 [.ref q, .int b] [] (sm_SH n, I, J) K ↔ K none (sm_SH n, sm_uI (sm_uI (sm_uI I q 1 b) q 2 (-1)) q 3 0, J) := by
  simp only [z53_0, z53_1, z53_2, z53_5, z53_6, z53_7, z53_10, z53_11, z53_12, z53_15, sm_cti, sm_ctr, sm_ctn, sm_nbi, Option.toList_some, Option.toList_none, List.cons_append, List.nil_append, ne_eq, reduceCtorEq, not_false_eq_true, Nat.reduceLeDiff, hq]
theorem y_hasPlaces (d n : Nat) (I : sm_I) (J : sm_J) (K : Option Value → sm_H → Prop) {q : Nat} (hq : sm_kc q = (0, 6)) (i m : Int32) : sm_Ok d 55 0 [.ref q, .int i, .int m] [] (sm_SH n, I, J) K ↔ K (some (.int (if 0 ≤ i ∧ 0 ≤ m ∧ i ≤ I q 3 ∧ m ≤ I q 3 - i then 1 else 0))) (sm_SH n, I, J) := by
  simp only [z55_31_0, z55_31_1, z55_0, z55_1, z55_4, z55_5, z55_8, z55_9, z55_10, z55_13, z55_16, z55_17, z55_18, z55_21, z55_22, z55_23, z55_26, z55_27, z55_30, z55_31, sm_cti, sm_ctr, sm_ctn, sm_nbi, Option.toList_some, Option.toList_none, List.cons_append, List.nil_append, ne_eq, reduceCtorEq, not_false_eq_true, Nat.reduceLeDiff, hq, y_lt]
  by_cases h1 : 0 ≤ i <;> by_cases h2 : 0 ≤ m <;> by_cases h3 : i ≤ I q 3 <;> by_cases h4 : m ≤ I q 3 - i <;> simp only [h1, h2, h3, h4, if_true, if_false, not_true_eq_false, not_false_eq_true, and_true, true_and, and_false, false_and, and_self, or_true, true_or, or_false, false_or, reduceIte, iff_self, Int32.add_zero, y_10]
