/-! both answer alike: led -/
theorem pw_led {n : Nat} {xs : Nat → Int32} {I : sm_I} {J : sm_J} (hI : Inv xs I J) (k : Int32) : pw n I J 111 [.ref 26, .int k] 216 [.ref 103, .int k] (fun I2 J2 => Inv xs I2 J2) := by
  obtain ⟨P, D, B, i1, i2, i3, i4, i5, i6, i7, i8⟩ := id hI
  intro d K hK
  by_cases h0 : 0 ≤ k ∧ k ≤ 4
  · obtain ⟨k', hk, rfl⟩ := nI_of2 (M := 4) (n := 4) (by decide) (Int32.not_lt.mpr h0.1) h0.2
    have e := i6.1 k' (by omega)
    simp only [z111_0, z111_1, z111_2, z111_5, z111_8, z111_9, z111_12, z111_13, z111_14, z111_17, z111_18, sm_cti, sm_ctr, sm_ctn, sm_nbi, Option.toList_some, Option.toList_none, List.cons_append, List.nil_append, ne_eq, reduceCtorEq, not_false_eq_true, Nat.reduceLeDiff, kc26, kc59, rf26_7, y_within, y_bit, h0, y_inN (show k' < 5 by omega) (by decide), nI_clamp (show k' < 2 ^ 31 by omega), if_true, if_false, not_true_eq_false, not_false_eq_true, and_true, true_and, and_false, false_and, and_self, or_true, true_or, or_false, false_or, reduceIte, iff_self, Int32.add_zero, y_10, Classical.not_not]
    refine hK _ I J (fun K2 h3 => ?_)
    simp only [z216_0, z216_1, z216_2, z216_3, z216_6, z216_9, z216_12, z216_13, z216_16, z216_17, z216_18, z216_21, z216_22, sm_cti, sm_ctr, sm_ctn, sm_nbi, Option.toList_some, Option.toList_none, List.cons_append, List.nil_append, ne_eq, reduceCtorEq, not_false_eq_true, Nat.reduceLeDiff, kc103, kc121, rf103_32, m_within, y_w0, y_v4, y_bit, h0, y_inN (show k' < 5 by omega) (by decide), nI_clamp (show k' < 2 ^ 31 by omega), ← e, if_true, if_false, not_true_eq_false, not_false_eq_true, and_true, true_and, and_false, false_and, and_self, or_true, true_or, or_false, false_or, reduceIte, iff_self, Int32.add_zero, y_10, Classical.not_not]
    exact h3 I J hI
  · simp only [z111_0, z111_1, z111_2, z111_5, z111_8, z111_9, z111_12, z111_13, z111_14, z111_17, z111_18, sm_cti, sm_ctr, sm_ctn, sm_nbi, Option.toList_some, Option.toList_none, List.cons_append, List.nil_append, ne_eq, reduceCtorEq, not_false_eq_true, Nat.reduceLeDiff, y_within, y_bit, h0, if_true, if_false, not_true_eq_false, not_false_eq_true, and_true, true_and, and_false, false_and, and_self, or_true, true_or, or_false, false_or, reduceIte, iff_self, Int32.add_zero, y_10, Classical.not_not]
    refine hK (-1) I J (fun K2 h3 => ?_)
    simp only [z216_0, z216_1, z216_2, z216_3, z216_6, z216_9, z216_12, z216_13, z216_16, z216_17, z216_18, z216_21, z216_22, sm_cti, sm_ctr, sm_ctn, sm_nbi, Option.toList_some, Option.toList_none, List.cons_append, List.nil_append, ne_eq, reduceCtorEq, not_false_eq_true, Nat.reduceLeDiff, m_within, y_w0, y_v4, y_bit, h0, if_true, if_false, not_true_eq_false, not_false_eq_true, and_true, true_and, and_false, false_and, and_self, or_true, true_or, or_false, false_or, reduceIte, iff_self, Int32.add_zero, y_10, Classical.not_not]
    exact h3 I J hI
