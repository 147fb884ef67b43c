/-! both answer alike: letOff -/
theorem cl_s {e : Nat} (h : e < 12) : clq (40 + e) = 43 ∧ clb (40 + e) = e := by
  unfold clq clb
  rw [if_neg (by omega), if_neg (by omega), if_neg (by omega), if_neg (by omega), if_neg (by omega), if_pos (by omega), if_neg (by omega), if_pos (by omega)]
  exact ⟨rfl, by omega⟩
theorem pw_letOff {n : Nat} {xs : Nat → Int32} {I : sm_I} {J : sm_J} (hI : Inv xs I J) (x : Int32) : pw n I J 110 [.ref 26, .int x, .null] 215 [.ref 103, .int x, .null] (fun I2 J2 => Inv xs I2 J2) := by
  obtain ⟨P, D, B, i1, i2, i3, i4, i5, i6, i7, i8⟩ := id hI
  obtain ⟨⟨p1, p2, p3, p4, p5, p6⟩, q, z, e⟩ := id i2
  have i45 : sm_in 4 5 = true := by decide
  have i4c : Int32.toNatClampNeg 4 = 4 := by decide
  intro d K hK
  by_cases h0 : 0 ≤ x ∧ x < nI D
  · obtain ⟨e, he, rfl⟩ := y_idx (show D < 2 ^ 31 by omega) h0
    obtain ⟨c1, c2⟩ := cl_s (show e < 12 by omega)
    have q0 := (q (40 + e) (by omega)).1
    rw [c1, c2] at q0
    have a4 : (40 : Int32) + nI e = nI (40 + e) := nI_add 40 e
    have q1 : ∀ (I : sm_I), sm_uI I 43 e 0 59 4 = I 59 4 := fun I => uI_q _ _ (by omega)
    simp only [z110_0, z110_1, z110_4, z110_5, z110_8, z110_11, z110_12, z110_13, z110_14, z110_17, z110_20, z110_21, z110_22, z110_23, z110_24, z110_27, z110_30, z110_31, z110_32, z110_33, z110_34, z110_37, z110_38, z110_39, z110_40, z110_41, z110_42, z110_43, z110_44, sm_cti, sm_ctr, sm_ctn, sm_nbi, Option.toList_some, Option.toList_none, List.cons_append, List.nil_append, ne_eq, reduceCtorEq, not_false_eq_true, Nat.reduceLeDiff, kc26, kc40, kc43, kc59, rc34, rf26_2, rf26_3, rf26_7, rf40_2, y_isDebt, p4, y_bit, h0, q1, i45, i4c, y_inN (show e < 12 by omega) (by decide), nI_clamp (show e < 2 ^ 31 by omega), if_true, if_false, not_true_eq_false, not_false_eq_true, and_true, true_and, and_false, false_and, and_self, or_true, true_or, or_false, false_or, reduceIte, iff_self, Int32.add_zero, y_10, Classical.not_not]
    refine hK _ _ J (fun K2 h3 => ?_)
    have g : ∀ x c, ¬ ((x = 43 ∧ c = e) ∨ (x = 59 ∧ c = 4)) → sm_uI (sm_uI I 43 e 0) 59 4 (I 59 4 + I 43 e) x c = I x c := fun x c hx => by rw [uI_o _ _ (by omega), uI_o _ _ (by omega)]
    have g1 : sm_uI (sm_uI I 43 e 0) 59 4 (I 59 4 + I 43 e) 43 e = 0 := by rw [uI_q _ _ (by omega), uI_s]
    have g2 : sm_uI (sm_uI I 43 e 0) 59 4 (I 59 4 + I 43 e) 59 4 = I 59 4 + I 43 e := uI_s _ _ _ _
    generalize sm_uI (sm_uI I 43 e 0) 59 4 (I 59 4 + I 43 e) = I1 at *
    have q2 : ∀ (I : sm_I), sm_uI I 104 (40 + e) 0 121 4 = I 121 4 := fun I => uI_q _ _ (by omega)
    have m7 : I1 103 7 = nI D := by rw [g _ _ (by omega), p6]
    have m1 : I1 104 (40 + e) = I 43 e := by rw [g _ _ (by omega), q0]
    simp only [z215_0, z215_1, z215_2, z215_3, z215_6, z215_9, z215_10, z215_11, z215_12, z215_15, z215_17, z215_18, z215_19, z215_20, z215_21, z215_22, z215_25, z215_27, z215_28, z215_29, z215_30, z215_31, z215_32, z215_35, z215_36, z215_37, z215_38, z215_39, z215_40, z215_41, z215_42, sm_cti, sm_ctr, sm_ctn, sm_nbi, Option.toList_some, Option.toList_none, List.cons_append, List.nil_append, ne_eq, reduceCtorEq, not_false_eq_true, Nat.reduceLeDiff, kc103, kc104, kc121, rc103, rf103_0, rf103_32, m_isDebtX (show D < 2 ^ 31 by omega) m7, y_bit, h0, q2, a4, m1, i45, i4c, y_inN (show 40 + e < 54 by omega) (by decide), nI_clamp (show 40 + e < 2 ^ 31 by omega), if_true, if_false, not_true_eq_false, not_false_eq_true, and_true, true_and, and_false, false_and, and_self, or_true, true_or, or_false, false_or, reduceIte, iff_self, Int32.add_zero, y_10, Classical.not_not]
    refine h3 _ J ?_
    have f : ∀ x c, ¬ ((x = 104 ∧ c = 40 + e) ∨ (x = 121 ∧ c = 4)) → sm_uI (sm_uI I1 104 (40 + e) 0) 121 4 (I1 121 4 + I 43 e) x c = I1 x c := fun x c hx => by rw [uI_o _ _ (by omega), uI_o _ _ (by omega)]
    have f1 : sm_uI (sm_uI I1 104 (40 + e) 0) 121 4 (I1 121 4 + I 43 e) 104 (40 + e) = 0 := by rw [uI_q _ _ (by omega), uI_s]
    have f2 : sm_uI (sm_uI I1 104 (40 + e) 0) 121 4 (I1 121 4 + I 43 e) 121 4 = I1 121 4 + I 43 e := uI_s _ _ _ _
    generalize sm_uI (sm_uI I1 104 (40 + e) 0) 121 4 (I1 121 4 + I 43 e) = I2 at *
    have t : ∀ x c, ¬ ((x = 104 ∧ c = 40 + e) ∨ (x = 121 ∧ c = 4) ∨ (x = 43 ∧ c = e) ∨ (x = 59 ∧ c = 4)) → I2 x c = I x c := fun x c hx => by rw [f _ _ (by omega), g _ _ (by omega)]
    refine Inv_26 i1 i3 i4 i5 i7 i8 (Nat.le_refl _) (fr26 (fun x c hx => t x c (by omega))) (fo_set (k := 40 + e) (v := 0) i2 (by omega) (Nat.zero_le _) (fun _ _ => by omega) (by rw [c1, c2, f _ _ (by omega), g1]; rfl) (by rw [f1]; rfl) (fun x c hx hy hw => t x c (by rw [c1, c2] at hy; omega))) (iv_im_l i6 (Nat.le_refl _) (Nat.le_refl _) (fun k hk => ?_) (fun x c hx => t x c (by omega)))
    by_cases hk4 : k = 4
    · subst hk4
      rw [f _ _ (by omega), g2, f2, g _ _ (by omega), i6.1 4 (by decide)]
    · rw [t _ _ (by omega), t _ _ (by omega), i6.1 k hk]
  · simp only [z110_0, z110_1, z110_4, z110_5, z110_8, z110_11, z110_12, z110_13, z110_14, z110_17, z110_20, z110_21, z110_22, z110_23, z110_24, z110_27, z110_30, z110_31, z110_32, z110_33, z110_34, z110_37, z110_38, z110_39, z110_40, z110_41, z110_42, z110_43, z110_44, sm_cti, sm_ctr, sm_ctn, sm_nbi, Option.toList_some, Option.toList_none, List.cons_append, List.nil_append, ne_eq, reduceCtorEq, not_false_eq_true, Nat.reduceLeDiff, kc26, rc34, rf26_2, y_isDebt, p4, y_bit, h0, if_true, if_false, not_true_eq_false, not_false_eq_true, and_true, true_and, and_false, false_and, and_self, or_true, true_or, or_false, false_or, reduceIte, iff_self, Int32.add_zero, y_10, Classical.not_not]
    refine hK (-1) I J (fun K2 h3 => ?_)
    simp only [z215_0, z215_1, z215_2, z215_3, z215_6, z215_9, z215_10, z215_11, z215_12, z215_15, z215_17, z215_18, z215_19, z215_20, z215_21, z215_22, z215_25, z215_27, z215_28, z215_29, z215_30, z215_31, z215_32, z215_35, z215_36, z215_37, z215_38, z215_39, z215_40, z215_41, z215_42, sm_cti, sm_ctr, sm_ctn, sm_nbi, Option.toList_some, Option.toList_none, List.cons_append, List.nil_append, ne_eq, reduceCtorEq, not_false_eq_true, Nat.reduceLeDiff, rc103, m_isDebtX (show D < 2 ^ 31 by omega) p6, y_bit, h0, if_true, if_false, not_true_eq_false, not_false_eq_true, and_true, true_and, and_false, false_and, and_self, or_true, true_or, or_false, false_or, reduceIte, iff_self, Int32.add_zero, y_10, Classical.not_not]
    exact h3 I J hI
