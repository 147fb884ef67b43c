/-! both answer alike: undo, redo -/
theorem nm_any {k : Nat} (hk : k < 54) : nmk 8 12 k := ⟨hk, fun _ => Nat.mod_lt _ (by decide), fun _ _ => by omega⟩
theorem pw_undo {n : Nat} {xs : Nat → Int32} {I : sm_I} {J : sm_J} (hI : Inv xs I J) : pw n I J 114 [.ref 26, .null] 153 [.ref 103] (fun I2 J2 => Inv xs I2 J2) := by
  obtain ⟨P, D, B, i1, i2, i3, i4, i5, i6, i7, i8⟩ := id hI
  obtain ⟨c, m, c1, c2, c3, c4, c5, c6, c7⟩ := id i3
  have hm1 : ((0 : Int32) ≤ -1) = False := by decide
  intro d K hK
  rcases c with _ | c
  · have h0 : ¬ (0 : Int32) < nI 0 := by decide
    have h00 : nI 0 = 0 := rfl
    simp only [z114_0, z114_1, z114_4, z114_7, z114_8, z114_9, z114_12, z114_14, z114_15, z114_16, z114_17, z114_20, z114_23, z114_24, z114_25, z114_26, z114_29, z114_32, z114_33, z114_34, z114_35, z114_38, z114_41, z114_42, z114_43, z114_46, z114_47, z114_50, z114_53, z3_0, z3_1, z3_4, z3_7, z3_8, z3_9, z3_10, z3_11, z3_14, z3_15, z3_16, z3_19, z3_20, z3_23, sm_cti, sm_ctr, sm_ctn, sm_nbi, Option.toList_some, Option.toList_none, List.cons_append, List.nil_append, ne_eq, reduceCtorEq, not_false_eq_true, Nat.reduceLeDiff, kc26, kc54, rc54, rf26_6, c3, h0, hm1, if_true, if_false, not_true_eq_false, not_false_eq_true, and_true, true_and, and_false, false_and, and_self, or_true, true_or, or_false, false_or, reduceIte, iff_self, Int32.add_zero, y_10, Classical.not_not]
    refine hK _ I J (fun K2 h3 => ?_)
    simp only [z153_0, z153_1, z153_4, z153_7, z153_9, z153_10, z153_11, z153_12, z153_15, z153_16, z153_17, z153_20, z153_21, z153_24, z153_25, z153_28, z153_29, z153_32, z153_33, z153_34, z153_37, z153_38, z153_41, z153_42, z153_43, z153_44, z153_47, sm_cti, sm_ctr, sm_ctn, sm_nbi, Option.toList_some, Option.toList_none, List.cons_append, List.nil_append, ne_eq, reduceCtorEq, not_false_eq_true, Nat.reduceLeDiff, kc103, c5, h00, if_true, if_false, not_true_eq_false, not_false_eq_true, and_true, true_and, and_false, false_and, and_self, or_true, true_or, or_false, false_or, reduceIte, iff_self, Int32.add_zero, y_10, Classical.not_not]
    exact h3 I J hI
  · obtain ⟨k, a, b, r1, r2, r3, r4, r5, r6, r7, r8, r9, r10, r11⟩ := c7 c (by omega)
    have hr := cl_rg r1
    have h0 : (0 : Int32) < nI (c + 1) := nI_lt (a := 0) (by omega) (by omega)
    have hz : ¬ nI (c + 1) = 0 := fun z => by have := (nI_eq (a := c + 1) (b := 0) (by omega) (by decide)).mp z; omega
    have hc0 : (0 : Int32) ≤ nI c := nI_pos' (by omega)
    have us : ∀ (A : sm_I) v, sm_uI A 54 4 v 54 4 = v := fun A v => uI_s _ _ _ _
    have u5 : ∀ (A : sm_I) v, sm_uI A 54 4 v 55 c = A 55 c := fun A v => uI_q _ _ (by decide)
    have u6 : ∀ (A : sm_I) v, sm_uI A 54 4 v 56 c = A 56 c := fun A v => uI_q _ _ (by decide)
    have u7 : ∀ (A : sm_I) v, sm_uI A 54 4 v 57 c = A 57 c := fun A v => uI_q _ _ (by decide)
    have u8 : ∀ (A : sm_I) v, sm_uI A (clq k) (clb k) v 54 4 = A 54 4 := fun A v => uI_q _ _ (by omega)
    simp only [z114_0, z114_1, z114_4, z114_7, z114_8, z114_9, z114_12, z114_14, z114_15, z114_16, z114_17, z114_20, z114_23, z114_24, z114_25, z114_26, z114_29, z114_32, z114_33, z114_34, z114_35, z114_38, z114_41, z114_42, z114_43, z114_46, z114_47, z114_50, z114_53, z3_0, z3_1, z3_4, z3_7, z3_8, z3_9, z3_10, z3_11, z3_14, z3_15, z3_16, z3_19, z3_20, z3_23, sm_cti, sm_ctr, sm_ctn, sm_nbi, Option.toList_some, Option.toList_none, List.cons_append, List.nil_append, ne_eq, reduceCtorEq, not_false_eq_true, Nat.reduceLeDiff, kc26, kc54, kc55, kc56, kc57, rc26, rc54, rf26_6, rf54_0, rf54_1, rf54_2, c3, h0, hc0, nI_pred, us, u5, u6, u7, u8, r6, r7, r9, c_setN (nm_any r1), y_inN (show c < 40 by omega) (by decide), nI_clamp (show c < 2 ^ 31 by omega), if_true, if_false, not_true_eq_false, not_false_eq_true, and_true, true_and, and_false, false_and, and_self, or_true, true_or, or_false, false_or, reduceIte, iff_self, Int32.add_zero, y_10, Classical.not_not]
    refine hK _ _ J (fun K2 h3 => ?_)
    have g : ∀ x y, ¬ ((x = clq k ∧ y = clb k) ∨ (x = 54 ∧ y = 4)) → sm_uI (sm_uI I 54 4 (nI c)) (clq k) (clb k) (nI a) x y = I x y := fun x y hx => by rw [uI_o _ _ (by omega), uI_o _ _ (by omega)]
    have g1 : sm_uI (sm_uI I 54 4 (nI c)) (clq k) (clb k) (nI a) (clq k) (clb k) = nI a := uI_s _ _ _ _
    have g2 : sm_uI (sm_uI I 54 4 (nI c)) (clq k) (clb k) (nI a) 54 4 = nI c := by rw [u8, us]
    generalize sm_uI (sm_uI I 54 4 (nI c)) (clq k) (clb k) (nI a) = I1 at *
    have M5 : I1 103 5 = nI (c + 1) := by rw [g _ _ (by omega), c5]
    have vs : ∀ (A : sm_I) v, sm_uI A 103 5 v 103 5 = v := fun A v => uI_s _ _ _ _
    have v5 : ∀ v, sm_uI I1 103 5 v 105 c = nI k := fun v => by rw [uI_q _ _ (by decide), g _ _ (by omega), r5]
    have v6 : ∀ v, sm_uI I1 103 5 v 106 c = nI a := fun v => by rw [uI_q _ _ (by decide), g _ _ (by omega), r8]
    have v7 : ∀ (A : sm_I) v, sm_uI A 104 k v 103 5 = A 103 5 := fun A v => uI_q _ _ (by decide)
    simp only [z153_0, z153_1, z153_4, z153_7, z153_9, z153_10, z153_11, z153_12, z153_15, z153_16, z153_17, z153_20, z153_21, z153_24, z153_25, z153_28, z153_29, z153_32, z153_33, z153_34, z153_37, z153_38, z153_41, z153_42, z153_43, z153_44, z153_47, sm_cti, sm_ctr, sm_ctn, sm_nbi, Option.toList_some, Option.toList_none, List.cons_append, List.nil_append, ne_eq, reduceCtorEq, not_false_eq_true, Nat.reduceLeDiff, kc103, kc104, kc105, kc106, rf103_0, rf103_1, rf103_2, M5, hz, nI_pred, vs, v5, v6, v7, y_inN (show c < 40 by omega) (by decide), nI_clamp (show c < 2 ^ 31 by omega), y_inN r1 (by decide), nI_clamp (show k < 2 ^ 31 by omega), if_true, if_false, not_true_eq_false, not_false_eq_true, and_true, true_and, and_false, false_and, and_self, or_true, true_or, or_false, false_or, reduceIte, iff_self, Int32.add_zero, y_10, Classical.not_not]
    refine h3 _ J ?_
    have t : ∀ x y, ¬ ((x = clq k ∧ y = clb k) ∨ (x = 54 ∧ y = 4) ∨ (x = 103 ∧ y = 5) ∨ (x = 104 ∧ y = k)) → sm_uI (sm_uI I1 103 5 (nI c)) 104 k (nI a) x y = I x y := fun x y hx => by rw [uI_o _ _ (by omega), uI_o _ _ (by omega), g _ _ (by omega)]
    have t1 : sm_uI (sm_uI I1 103 5 (nI c)) 104 k (nI a) (clq k) (clb k) = nI a := by rw [uI_o _ _ (by omega), uI_o _ _ (by omega), g1]
    have t2 : sm_uI (sm_uI I1 103 5 (nI c)) 104 k (nI a) 54 4 = nI c := by rw [uI_o _ _ (by omega), uI_o _ _ (by omega), g2]
    have t3 : sm_uI (sm_uI I1 103 5 (nI c)) 104 k (nI a) 103 5 = nI c := by rw [v7, vs]
    have t4 : sm_uI (sm_uI I1 103 5 (nI c)) 104 k (nI a) 104 k = nI a := uI_s _ _ _ _
    generalize sm_uI (sm_uI I1 103 5 (nI c)) 104 k (nI a) = I2 at *
    refine Inv_23 i1 i4 i5 i6 i7 i8 (fr23 (fun x y hx => t x y (by omega))) (fo_set (k := k) (v := a) i2 r1 r3 r2 t1 t4 (fun x y hx hy hz => t x y (by omega))) ⟨c, m, by omega, ⟨c2.1, by rw [t _ _ (by omega), c2.2]⟩, t2, by rw [t _ _ (by omega), c4], t3, by rw [t _ _ (by omega), c6], fun j hj => ?_⟩
    obtain ⟨k', a', b', s1, s2, s3, s4, s5, s6, s7, s8, s9, s10, s11⟩ := c7 j hj
    exact ⟨k', a', b', s1, s2, s3, s4, by rw [t _ _ (by omega), s5], by rw [t _ _ (by omega), s6], by rw [t _ _ (by omega), s7], by rw [t _ _ (by omega), s8], by rw [t _ _ (by omega), s9], by rw [t _ _ (by omega), s10], by rw [t _ _ (by omega), s11]⟩
theorem pw_redo {n : Nat} {xs : Nat → Int32} {I : sm_I} {J : sm_J} (hI : Inv xs I J) : pw n I J 115 [.ref 26, .null] 154 [.ref 103] (fun I2 J2 => Inv xs I2 J2) := by
  obtain ⟨P, D, B, i1, i2, i3, i4, i5, i6, i7, i8⟩ := id hI
  obtain ⟨c, m, c1, c2, c3, c4, c5, c6, c7⟩ := id i3
  have hm1 : ((0 : Int32) ≤ -1) = False := by decide
  intro d K hK
  by_cases hcm : c = m
  · subst hcm
    have h0 : ¬ nI c < nI c := Int32.not_lt.mpr (Int32.le_refl _)
    simp only [z115_0, z115_1, z115_4, z115_7, z115_8, z115_9, z115_12, z115_14, z115_15, z115_16, z115_17, z115_20, z115_23, z115_24, z115_25, z115_26, z115_29, z115_32, z115_33, z115_34, z115_35, z115_38, z115_41, z115_42, z115_43, z115_46, z115_47, z115_50, z115_53, z115_54, z115_57, z115_60, z115_61, z4_0, z4_1, z4_4, z4_5, z4_8, z4_11, z4_12, z4_13, z4_14, z4_15, z4_18, z4_19, z4_20, z4_23, z4_24, z4_27, z4_28, z4_29, sm_cti, sm_ctr, sm_ctn, sm_nbi, Option.toList_some, Option.toList_none, List.cons_append, List.nil_append, ne_eq, reduceCtorEq, not_false_eq_true, Nat.reduceLeDiff, kc26, kc54, rc54, rf26_6, c3, c4, h0, hm1, if_true, if_false, not_true_eq_false, not_false_eq_true, and_true, true_and, and_false, false_and, and_self, or_true, true_or, or_false, false_or, reduceIte, iff_self, Int32.add_zero, y_10, Classical.not_not]
    refine hK _ I J (fun K2 h3 => ?_)
    simp only [z154_0, z154_1, z154_4, z154_5, z154_8, z154_11, z154_13, z154_14, z154_15, z154_18, z154_19, z154_22, z154_23, z154_26, z154_27, z154_28, z154_31, z154_32, z154_35, z154_36, z154_37, z154_38, z154_39, z154_42, z154_43, z154_44, z154_47, z154_48, z154_51, z154_52, z154_55, z154_56, sm_cti, sm_ctr, sm_ctn, sm_nbi, Option.toList_some, Option.toList_none, List.cons_append, List.nil_append, ne_eq, reduceCtorEq, not_false_eq_true, Nat.reduceLeDiff, kc103, c5, c6, if_true, if_false, not_true_eq_false, not_false_eq_true, and_true, true_and, and_false, false_and, and_self, or_true, true_or, or_false, false_or, reduceIte, iff_self, Int32.add_zero, y_10, Classical.not_not]
    exact h3 I J hI
  · obtain ⟨k, a, b, r1, r2, r3, r4, r5, r6, r7, r8, r9, r10, r11⟩ := c7 c (by omega)
    have hr := cl_rg r1
    have h0 : nI c < nI m := nI_lt (by omega) (by omega)
    have hz : ¬ nI c = nI m := fun z => by have := (nI_eq (a := c) (b := m) (by omega) (by omega)).mp z; omega
    have hc0 : (0 : Int32) ≤ nI c := nI_pos' (by omega)
    have us : ∀ (A : sm_I) v, sm_uI A 54 4 v 54 4 = v := fun A v => uI_s _ _ _ _
    have u5 : ∀ (A : sm_I) v, sm_uI A 54 4 v 55 c = A 55 c := fun A v => uI_q _ _ (by decide)
    have u6 : ∀ (A : sm_I) v, sm_uI A 54 4 v 56 c = A 56 c := fun A v => uI_q _ _ (by decide)
    have u7 : ∀ (A : sm_I) v, sm_uI A 54 4 v 58 c = A 58 c := fun A v => uI_q _ _ (by decide)
    have u8 : ∀ (A : sm_I) v, sm_uI A (clq k) (clb k) v 54 4 = A 54 4 := fun A v => uI_q _ _ (by omega)
    have u9 : ∀ (A : sm_I) v, sm_uI A (clq k) (clb k) v 54 5 = A 54 5 := fun A v => uI_q _ _ (by omega)
    have u10 : ∀ v, sm_uI I 54 4 v 54 5 = nI m := fun v => by rw [uI_o _ _ (by omega), c4]
    simp only [z115_0, z115_1, z115_4, z115_7, z115_8, z115_9, z115_12, z115_14, z115_15, z115_16, z115_17, z115_20, z115_23, z115_24, z115_25, z115_26, z115_29, z115_32, z115_33, z115_34, z115_35, z115_38, z115_41, z115_42, z115_43, z115_46, z115_47, z115_50, z115_53, z115_54, z115_57, z115_60, z115_61, z4_0, z4_1, z4_4, z4_5, z4_8, z4_11, z4_12, z4_13, z4_14, z4_15, z4_18, z4_19, z4_20, z4_23, z4_24, z4_27, z4_28, z4_29, sm_cti, sm_ctr, sm_ctn, sm_nbi, Option.toList_some, Option.toList_none, List.cons_append, List.nil_append, ne_eq, reduceCtorEq, not_false_eq_true, Nat.reduceLeDiff, kc26, kc54, kc55, kc56, kc58, rc26, rc54, rf26_6, rf54_0, rf54_1, rf54_3, c3, c4, h0, hc0, nI_1, nI_pred, us, u5, u6, u7, u8, u9, u10, r6, r7, r11, c_setN (nm_any r1), y_inN (show c < 40 by omega) (by decide), nI_clamp (show c < 2 ^ 31 by omega), if_true, if_false, not_true_eq_false, not_false_eq_true, and_true, true_and, and_false, false_and, and_self, or_true, true_or, or_false, false_or, reduceIte, iff_self, Int32.add_zero, y_10, Classical.not_not]
    refine hK _ _ J (fun K2 h3 => ?_)
    have g : ∀ x y, ¬ ((x = clq k ∧ y = clb k) ∨ (x = 54 ∧ y = 4)) → sm_uI (sm_uI I 54 4 (nI (c + 1))) (clq k) (clb k) (nI b) x y = I x y := fun x y hx => by rw [uI_o _ _ (by omega), uI_o _ _ (by omega)]
    have g1 : sm_uI (sm_uI I 54 4 (nI (c + 1))) (clq k) (clb k) (nI b) (clq k) (clb k) = nI b := uI_s _ _ _ _
    have g2 : sm_uI (sm_uI I 54 4 (nI (c + 1))) (clq k) (clb k) (nI b) 54 4 = nI (c + 1) := by rw [u8, us]
    generalize sm_uI (sm_uI I 54 4 (nI (c + 1))) (clq k) (clb k) (nI b) = I1 at *
    have M5 : I1 103 5 = nI c := by rw [g _ _ (by omega), c5]
    have M4 : I1 103 4 = nI m := by rw [g _ _ (by omega), c6]
    have vs : ∀ (A : sm_I) v, sm_uI A 103 5 v 103 5 = v := fun A v => uI_s _ _ _ _
    have v5 : I1 105 c = nI k := by rw [g _ _ (by omega), r5]
    have v6 : I1 107 c = nI b := by rw [g _ _ (by omega), r10]
    have v7 : ∀ (A : sm_I) v, sm_uI A 104 k v 103 5 = A 103 5 := fun A v => uI_q _ _ (by decide)
    have v8 : ∀ (A : sm_I) v w, sm_uI (sm_uI A 104 k v) 103 5 w 103 4 = A 103 4 := fun A v w => by rw [uI_o _ _ (by omega), uI_q _ _ (by decide)]
    simp only [z154_0, z154_1, z154_4, z154_5, z154_8, z154_11, z154_13, z154_14, z154_15, z154_18, z154_19, z154_22, z154_23, z154_26, z154_27, z154_28, z154_31, z154_32, z154_35, z154_36, z154_37, z154_38, z154_39, z154_42, z154_43, z154_44, z154_47, z154_48, z154_51, z154_52, z154_55, z154_56, sm_cti, sm_ctr, sm_ctn, sm_nbi, Option.toList_some, Option.toList_none, List.cons_append, List.nil_append, ne_eq, reduceCtorEq, not_false_eq_true, Nat.reduceLeDiff, kc103, kc104, kc105, kc107, rf103_0, rf103_1, rf103_3, M5, M4, hz, nI_1, vs, v5, v6, v7, v8, y_inN (show c < 40 by omega) (by decide), nI_clamp (show c < 2 ^ 31 by omega), y_inN r1 (by decide), nI_clamp (show k < 2 ^ 31 by omega), if_true, if_false, not_true_eq_false, not_false_eq_true, and_true, true_and, and_false, false_and, and_self, or_true, true_or, or_false, false_or, reduceIte, iff_self, Int32.add_zero, y_10, Classical.not_not]
    refine h3 _ J ?_
    have t : ∀ x y, ¬ ((x = clq k ∧ y = clb k) ∨ (x = 54 ∧ y = 4) ∨ (x = 103 ∧ y = 5) ∨ (x = 104 ∧ y = k)) → sm_uI (sm_uI I1 104 k (nI b)) 103 5 (nI (c + 1)) x y = I x y := fun x y hx => by rw [uI_o _ _ (by omega), uI_o _ _ (by omega), g _ _ (by omega)]
    have t1 : sm_uI (sm_uI I1 104 k (nI b)) 103 5 (nI (c + 1)) (clq k) (clb k) = nI b := by rw [uI_o _ _ (by omega), uI_o _ _ (by omega), g1]
    have t2 : sm_uI (sm_uI I1 104 k (nI b)) 103 5 (nI (c + 1)) 54 4 = nI (c + 1) := by rw [uI_o _ _ (by omega), uI_o _ _ (by omega), g2]
    have t3 : sm_uI (sm_uI I1 104 k (nI b)) 103 5 (nI (c + 1)) 103 5 = nI (c + 1) := uI_s _ _ _ _
    have t4 : sm_uI (sm_uI I1 104 k (nI b)) 103 5 (nI (c + 1)) 104 k = nI b := by rw [uI_q _ _ (by decide), uI_s]
    generalize sm_uI (sm_uI I1 104 k (nI b)) 103 5 (nI (c + 1)) = I2 at *
    refine Inv_23 i1 i4 i5 i6 i7 i8 (fr23 (fun x y hx => t x y (by omega))) (fo_set (k := k) (v := b) i2 r1 r4 r2 t1 t4 (fun x y hx hy hz => t x y (by omega))) ⟨c + 1, m, by omega, ⟨c2.1, by rw [t _ _ (by omega), c2.2]⟩, t2, by rw [t _ _ (by omega), c4], t3, by rw [t _ _ (by omega), c6], fun j hj => ?_⟩
    obtain ⟨k', a', b', s1, s2, s3, s4, s5, s6, s7, s8, s9, s10, s11⟩ := c7 j hj
    exact ⟨k', a', b', s1, s2, s3, s4, by rw [t _ _ (by omega), s5], by rw [t _ _ (by omega), s6], by rw [t _ _ (by omega), s7], by rw [t _ _ (by omega), s8], by rw [t _ _ (by omega), s9], by rw [t _ _ (by omega), s10], by rw [t _ _ (by omega), s11]⟩
