/-! how the reference reads a text: levels, operands -/
section
variable {t : Nat → Nat} {N : Nat}
theorem m_either {dd o : Nat} {op : Nat → pR} (hs : mrd t N 171 (dd + 2) [.ref 103, .null, .null] o op) (hg : gp N op) : mrd t N 170 (dd + 3) [.ref 103, .null, .null] o (fun a => pl t N (sgs 0) op 120 (op a)) := by
  intro d n J K I a h1 h2 h3 h4 h5 hK
  have hN := h1.1
  obtain ⟨g1, g2, g3⟩ := hg a h2
  rw [show d + (dd + 3) = d + dd + 2 + 1 from rfl, z170_0]
  simp only [z170_1, z170_4, z170_6, z170_8, z170_11, z170_14, z170_15, z170_18, z170_19, z170_20, z170_23, z170_24, z170_27, z170_28, z170_31, z170_32, z170_33, z170_36, z170_37, sm_cti, sm_ctr, sm_ctn, sm_nbi, Option.toList_some, Option.toList_none, List.cons_append, List.nil_append, ne_eq, reduceCtorEq, not_false_eq_true, Nat.reduceLeDiff, rc103, if_true, if_false, not_true_eq_false, not_false_eq_true, and_true, true_and, and_false, false_and, and_self, or_true, true_or, or_false, false_or, reduceIte, iff_self, Int32.add_zero, y_10, Classical.not_not]
  refine hs d n J _ I a h1 h2 h3 h4 h5 (fun I1 v m1 hv => ?_)
  simp only [z170_1, z170_4, z170_6, z170_8, z170_11, z170_14, z170_15, z170_18, z170_19, z170_20, z170_23, z170_24, z170_27, z170_28, z170_31, z170_32, z170_33, z170_36, z170_37, sm_cti, sm_ctr, sm_ctn, sm_nbi, Option.toList_some, Option.toList_none, List.cons_append, List.nil_append, ne_eq, reduceCtorEq, not_false_eq_true, Nat.reduceLeDiff, if_true, if_false, not_true_eq_false, not_false_eq_true, and_true, true_and, and_false, false_and, and_self, or_true, true_or, or_false, false_or, reduceIte, iff_self, Int32.add_zero, y_10, Classical.not_not]
  exact m_lp170 hs hg h1 h5 d n J K 120 (op a) (by omega) g2 I1 v _ m1 hv hK
theorem m_both {dd o : Nat} {op : Nat → pR} (hs : mrd t N 172 (dd + 2) [.ref 103, .null, .null, .null] o op) (hg : gp N op) : mrd t N 171 (dd + 3) [.ref 103, .null, .null] o (fun a => pl t N (sgs 1) op 120 (op a)) := by
  intro d n J K I a h1 h2 h3 h4 h5 hK
  have hN := h1.1
  obtain ⟨g1, g2, g3⟩ := hg a h2
  rw [show d + (dd + 3) = d + dd + 2 + 1 from rfl, z171_0]
  simp only [z171_1, z171_4, z171_6, z171_8, z171_11, z171_14, z171_15, z171_18, z171_19, z171_20, z171_23, z171_24, z171_27, z171_28, z171_31, z171_32, z171_33, z171_36, z171_37, sm_cti, sm_ctr, sm_ctn, sm_nbi, Option.toList_some, Option.toList_none, List.cons_append, List.nil_append, ne_eq, reduceCtorEq, not_false_eq_true, Nat.reduceLeDiff, rc103, if_true, if_false, not_true_eq_false, not_false_eq_true, and_true, true_and, and_false, false_and, and_self, or_true, true_or, or_false, false_or, reduceIte, iff_self, Int32.add_zero, y_10, Classical.not_not]
  refine hs d n J _ I a h1 h2 h3 h4 h5 (fun I1 v m1 hv => ?_)
  simp only [z171_1, z171_4, z171_6, z171_8, z171_11, z171_14, z171_15, z171_18, z171_19, z171_20, z171_23, z171_24, z171_27, z171_28, z171_31, z171_32, z171_33, z171_36, z171_37, sm_cti, sm_ctr, sm_ctn, sm_nbi, Option.toList_some, Option.toList_none, List.cons_append, List.nil_append, ne_eq, reduceCtorEq, not_false_eq_true, Nat.reduceLeDiff, if_true, if_false, not_true_eq_false, not_false_eq_true, and_true, true_and, and_false, false_and, and_self, or_true, true_or, or_false, false_or, reduceIte, iff_self, Int32.add_zero, y_10, Classical.not_not]
  exact m_lp171 hs hg h1 h5 d n J K 120 (op a) (by omega) g2 I1 v _ m1 hv hK
theorem m_sums {dd o : Nat} {op : Nat → pR} (hs : mrd t N 174 (dd + 2) [.ref 103, .null, .null, .null] o op) (hg : gp N op) : mrd t N 173 (dd + 3) [.ref 103, .null, .null, .null] o (fun a => pl t N (sgs 3) op 120 (op a)) := by
  intro d n J K I a h1 h2 h3 h4 h5 hK
  have hN := h1.1
  obtain ⟨g1, g2, g3⟩ := hg a h2
  rw [show d + (dd + 3) = d + dd + 2 + 1 from rfl, z173_0]
  simp only [z173_1, z173_4, z173_6, z173_9, z173_12, z173_13, z173_16, z173_18, z173_21, z173_22, z173_25, z173_27, z173_30, z173_31, z173_34, z173_36, z173_39, z173_40, z173_43, z173_44, z173_45, z173_46, z173_47, z173_50, z173_51, z173_52, z173_55, z173_56, z173_59, z173_60, z173_61, z173_64, z173_65, z173_66, z173_67, z173_70, z173_71, z173_72, z173_73, z173_74, z173_77, z173_78, sm_cti, sm_ctr, sm_ctn, sm_nbi, Option.toList_some, Option.toList_none, List.cons_append, List.nil_append, ne_eq, reduceCtorEq, not_false_eq_true, Nat.reduceLeDiff, rc103, if_true, if_false, not_true_eq_false, not_false_eq_true, and_true, true_and, and_false, false_and, and_self, or_true, true_or, or_false, false_or, reduceIte, iff_self, Int32.add_zero, y_10, Classical.not_not]
  refine hs d n J _ I a h1 h2 h3 h4 h5 (fun I1 v m1 hv => ?_)
  simp only [z173_1, z173_4, z173_6, z173_9, z173_12, z173_13, z173_16, z173_18, z173_21, z173_22, z173_25, z173_27, z173_30, z173_31, z173_34, z173_36, z173_39, z173_40, z173_43, z173_44, z173_45, z173_46, z173_47, z173_50, z173_51, z173_52, z173_55, z173_56, z173_59, z173_60, z173_61, z173_64, z173_65, z173_66, z173_67, z173_70, z173_71, z173_72, z173_73, z173_74, z173_77, z173_78, sm_cti, sm_ctr, sm_ctn, sm_nbi, Option.toList_some, Option.toList_none, List.cons_append, List.nil_append, ne_eq, reduceCtorEq, not_false_eq_true, Nat.reduceLeDiff, if_true, if_false, not_true_eq_false, not_false_eq_true, and_true, true_and, and_false, false_and, and_self, or_true, true_or, or_false, false_or, reduceIte, iff_self, Int32.add_zero, y_10, Classical.not_not]
  exact m_lp173 hs hg h1 h5 d n J K 120 (op a) (by omega) g2 I1 v _ _ m1 hv hK
theorem m_prod {dd o : Nat} {op : Nat → pR} (hs : mrd t N 176 (dd + 2) [.ref 103, .null, .null, .null, .null] o op) (hg : gp N op) : mrd t N 174 (dd + 3) [.ref 103, .null, .null, .null] o (fun a => pl t N (sgs 4) op 120 (op a)) := by
  intro d n J K I a h1 h2 h3 h4 h5 hK
  have hN := h1.1
  obtain ⟨g1, g2, g3⟩ := hg a h2
  rw [show d + (dd + 3) = d + dd + 2 + 1 from rfl, z174_0]
  simp only [z174_1, z174_4, z174_5, z174_6, z174_9, z174_11, z174_14, z174_17, z174_18, z174_20, z174_23, z174_24, z174_26, z174_29, z174_30, z174_32, z174_35, z174_36, z174_37, z174_40, z174_41, z174_42, z174_45, z174_46, z174_49, z174_50, z174_51, z174_53, z174_56, z174_57, z174_58, z174_59, z174_62, z174_63, z174_66, z174_67, z174_70, z174_71, z174_73, z174_76, z174_77, z174_78, z174_79, z174_82, z174_83, z174_84, z174_85, z174_86, z174_87, z174_90, z174_91, z174_94, z174_95, sm_cti, sm_ctr, sm_ctn, sm_nbi, Option.toList_some, Option.toList_none, List.cons_append, List.nil_append, ne_eq, reduceCtorEq, not_false_eq_true, Nat.reduceLeDiff, rc103, if_true, if_false, not_true_eq_false, not_false_eq_true, and_true, true_and, and_false, false_and, and_self, or_true, true_or, or_false, false_or, reduceIte, iff_self, Int32.add_zero, y_10, Classical.not_not]
  refine hs d n J _ I a h1 h2 h3 h4 h5 (fun I1 v m1 hv => ?_)
  simp only [z174_1, z174_4, z174_5, z174_6, z174_9, z174_11, z174_14, z174_17, z174_18, z174_20, z174_23, z174_24, z174_26, z174_29, z174_30, z174_32, z174_35, z174_36, z174_37, z174_40, z174_41, z174_42, z174_45, z174_46, z174_49, z174_50, z174_51, z174_53, z174_56, z174_57, z174_58, z174_59, z174_62, z174_63, z174_66, z174_67, z174_70, z174_71, z174_73, z174_76, z174_77, z174_78, z174_79, z174_82, z174_83, z174_84, z174_85, z174_86, z174_87, z174_90, z174_91, z174_94, z174_95, sm_cti, sm_ctr, sm_ctn, sm_nbi, Option.toList_some, Option.toList_none, List.cons_append, List.nil_append, ne_eq, reduceCtorEq, not_false_eq_true, Nat.reduceLeDiff, rc103, m_byteAt (mpo_tp m1 h1) _ _ _ _ g2 m1.2.1, if_true, if_false, not_true_eq_false, not_false_eq_true, and_true, true_and, and_false, false_and, and_self, or_true, true_or, or_false, false_or, reduceIte, iff_self, Int32.add_zero, y_10, Classical.not_not]
  exact m_lp174 hs hg h1 h5 d n J K 120 (op a) (by omega) g2 I1 v _ m1 hv hK
theorem m_cmp {dd o : Nat} {op : Nat → pR} (hs : mrd t N 173 (dd + 2) [.ref 103, .null, .null, .null] o op) (hg : gp N op) : mrd t N 172 (dd + 3) [.ref 103, .null, .null, .null] o (fun a => pl t N (sgs 2) op 1 (op a)) := by
  intro d n J K I a h1 h2 h3 h4 h5 hK
  have hN := h1.1
  have ey2 : ¬ (0 : Int32) ≤ -1 := by decide
  obtain ⟨g1, g2, g3⟩ := hg a h2
  rw [show d + (dd + 3) = d + dd + 2 + 1 from rfl, z172_0]
  simp only [z172_1, z172_4, z172_5, z172_6, z172_9, z172_10, z172_11, z172_14, z172_17, z172_18, z172_20, z172_23, z172_24, z172_26, z172_29, z172_30, z172_32, z172_35, z172_36, z172_37, z172_38, z172_39, z172_42, z172_43, z172_44, z172_47, z172_48, z172_51, z172_52, z172_53, z172_55, z172_58, z172_59, z172_60, z172_63, z172_66, z172_67, z172_69, z172_72, z172_73, z172_74, z172_77, z172_80, z172_81, z172_82, z172_85, z172_86, z172_89, z172_90, sm_cti, sm_ctr, sm_ctn, sm_nbi, Option.toList_some, Option.toList_none, List.cons_append, List.nil_append, ne_eq, reduceCtorEq, not_false_eq_true, Nat.reduceLeDiff, rc103, if_true, if_false, not_true_eq_false, not_false_eq_true, and_true, true_and, and_false, false_and, and_self, or_true, true_or, or_false, false_or, reduceIte, iff_self, Int32.add_zero, y_10, Classical.not_not]
  refine hs d n J _ I a h1 h2 h3 h4 h5 (fun I1 v m1 hv => ?_)
  have tp1 := mpo_tp m1 h1
  have hbl := bt_lt h1 (op a).1
  simp only [z172_1, z172_4, z172_5, z172_6, z172_9, z172_10, z172_11, z172_14, z172_17, z172_18, z172_20, z172_23, z172_24, z172_26, z172_29, z172_30, z172_32, z172_35, z172_36, z172_37, z172_38, z172_39, z172_42, z172_43, z172_44, z172_47, z172_48, z172_51, z172_52, z172_53, z172_55, z172_58, z172_59, z172_60, z172_63, z172_66, z172_67, z172_69, z172_72, z172_73, z172_74, z172_77, z172_80, z172_81, z172_82, z172_85, z172_86, z172_89, z172_90, sm_cti, sm_ctr, sm_ctn, sm_nbi, Option.toList_some, Option.toList_none, List.cons_append, List.nil_append, ne_eq, reduceCtorEq, not_false_eq_true, Nat.reduceLeDiff, kc103, rc103, m_byteAt tp1 _ _ _ _ g2 m1.2.1, if_true, if_false, not_true_eq_false, not_false_eq_true, and_true, true_and, and_false, false_and, and_self, or_true, true_or, or_false, false_or, reduceIte, iff_self, Int32.add_zero, y_10, Classical.not_not]
  by_cases hc : (op a).2.1 = false ∧ (op a).1 < N ∧ sgs 2 (t (op a).1) = true
  · have hpl : pl t N (sgs 2) op 1 (op a) = ((op ((op a).1 + 1)).1, (op ((op a).1 + 1)).2.1, (op a).2.2.1 ++ (op ((op a).1 + 1)).2.2.1 ++ [nI (t (op a).1)], fun g => jn (t (op a).1) ((op a).2.2.2 g) ((op ((op a).1 + 1)).2.2.2 g)) := by
      rw [pl, if_pos hc]
      rfl
    simp only [hpl] at hK
    have hvr := hv hc.1
    rw [hc.1] at m1
    obtain ⟨u1, u2⟩ := m1.2.2.1 rfl
    have m2 := mpo_tr m1 (mpo_at (a := (op a).1 + 1) u1)
    obtain ⟨s1, s2⟩ := m2.2.2.1 rfl
    have hb := sgs2 hc.2.2
    have hbt : bt t N (op a).1 = t (op a).1 := by unfold bt; rw [if_pos hc.2.1]
    have e60 : (nI (t (op a).1) = 60) = (t (op a).1 = 60) := propext (nI_eq (b := 60) (by omega) (by decide))
    have e61 : (nI (t (op a).1) = 61) = (t (op a).1 = 61) := propext (nI_eq (b := 61) (by omega) (by decide))
    have e62 : (nI (t (op a).1) = 62) = (t (op a).1 = 62) := propext (nI_eq (b := 62) (by omega) (by decide))
    have hh : t (op a).1 = 60 ∨ t (op a).1 = 61 ∨ t (op a).1 = 62 := by have := hc.2.2; simpa [sgs, or_assoc] using this
    have goon : ∀ (K2 : Option Value → sm_H → Prop), (∀ (I3 : sm_I) (u : Int32), mpo (op ((op a).1 + 1)).1 (op ((op a).1 + 1)).2.1 I I3 → ((op ((op a).1 + 1)).2.1 = false → u = (op ((op a).1 + 1)).2.2.2 (I 112)) → K2 (some (.int u)) (sm_SH n, I3, J)) → sm_Ok (d + dd + 2) 173 0 [.ref 103, .null, .null, .null] [] (sm_SH n, sm_uI I1 103 15 (nI ((op a).1 + 1)), J) K2 := fun K2 h2 => hs d n J K2 _ ((op a).1 + 1) (mpo_tp m2 h1) (by omega) m2.2.1 s1 (by rw [s2, h5]) (fun I3 u m3 hu => h2 I3 u (mpo_tr m2 m3) (by rw [← mpo_nm m2]; exact hu))
    simp only [hbt, e60, e61, e62, u1, ey2, m1.2.1, nI_1, if_true, if_false, not_true_eq_false, not_false_eq_true, and_true, true_and, and_false, false_and, and_self, or_true, true_or, or_false, false_or, reduceIte, iff_self, Int32.add_zero, y_10, Classical.not_not]
    have d1 : ¬ (61 : Nat) = 60 := by decide
    have d2 : ¬ (62 : Nat) = 60 := by decide
    have d3 : ¬ (62 : Nat) = 61 := by decide
    rcases hh with h | h | h
    · simp only [h, z172_1, z172_4, z172_5, z172_6, z172_9, z172_10, z172_11, z172_14, z172_17, z172_18, z172_20, z172_23, z172_24, z172_26, z172_29, z172_30, z172_32, z172_35, z172_36, z172_37, z172_38, z172_39, z172_42, z172_43, z172_44, z172_47, z172_48, z172_51, z172_52, z172_53, z172_55, z172_58, z172_59, z172_60, z172_63, z172_66, z172_67, z172_69, z172_72, z172_73, z172_74, z172_77, z172_80, z172_81, z172_82, z172_85, z172_86, z172_89, z172_90, sm_cti, sm_ctr, sm_ctn, sm_nbi, Option.toList_some, Option.toList_none, List.cons_append, List.nil_append, ne_eq, reduceCtorEq, not_false_eq_true, Nat.reduceLeDiff, kc103, rc103, m1.2.1, nI_1, if_true, if_false, not_true_eq_false, not_false_eq_true, and_true, true_and, and_false, false_and, and_self, or_true, true_or, or_false, false_or, reduceIte, iff_self, Int32.add_zero, y_10, Classical.not_not]
      refine goon _ (fun I3 u m3 hu => ?_)
      simp only [z172_1, z172_4, z172_5, z172_6, z172_9, z172_10, z172_11, z172_14, z172_17, z172_18, z172_20, z172_23, z172_24, z172_26, z172_29, z172_30, z172_32, z172_35, z172_36, z172_37, z172_38, z172_39, z172_42, z172_43, z172_44, z172_47, z172_48, z172_51, z172_52, z172_53, z172_55, z172_58, z172_59, z172_60, z172_63, z172_66, z172_67, z172_69, z172_72, z172_73, z172_74, z172_77, z172_80, z172_81, z172_82, z172_85, z172_86, z172_89, z172_90, sm_cti, sm_ctr, sm_ctn, sm_nbi, Option.toList_some, Option.toList_none, List.cons_append, List.nil_append, ne_eq, reduceCtorEq, not_false_eq_true, Nat.reduceLeDiff, show nI 60 = 60 from rfl, y_lt, if_true, if_false, not_true_eq_false, not_false_eq_true, and_true, true_and, and_false, false_and, and_self, or_true, true_or, or_false, false_or, reduceIte, iff_self, Int32.add_zero, y_10, Classical.not_not]
      by_cases hu0 : u ≤ v
      · simp only [hu0, z172_1, z172_4, z172_5, z172_6, z172_9, z172_10, z172_11, z172_14, z172_17, z172_18, z172_20, z172_23, z172_24, z172_26, z172_29, z172_30, z172_32, z172_35, z172_36, z172_37, z172_38, z172_39, z172_42, z172_43, z172_44, z172_47, z172_48, z172_51, z172_52, z172_53, z172_55, z172_58, z172_59, z172_60, z172_63, z172_66, z172_67, z172_69, z172_72, z172_73, z172_74, z172_77, z172_80, z172_81, z172_82, z172_85, z172_86, z172_89, z172_90, sm_cti, sm_ctr, sm_ctn, sm_nbi, Option.toList_some, Option.toList_none, List.cons_append, List.nil_append, ne_eq, reduceCtorEq, not_false_eq_true, Nat.reduceLeDiff, if_true, if_false, not_true_eq_false, not_false_eq_true, and_true, true_and, and_false, false_and, and_self, or_true, true_or, or_false, false_or, reduceIte, iff_self, Int32.add_zero, y_10, Classical.not_not]
        exact hK I3 _ m3 (fun hw => by rw [← hvr, ← hu hw]; unfold jn; simp [h, y_lt, hu0])
      · simp only [hu0, z172_1, z172_4, z172_5, z172_6, z172_9, z172_10, z172_11, z172_14, z172_17, z172_18, z172_20, z172_23, z172_24, z172_26, z172_29, z172_30, z172_32, z172_35, z172_36, z172_37, z172_38, z172_39, z172_42, z172_43, z172_44, z172_47, z172_48, z172_51, z172_52, z172_53, z172_55, z172_58, z172_59, z172_60, z172_63, z172_66, z172_67, z172_69, z172_72, z172_73, z172_74, z172_77, z172_80, z172_81, z172_82, z172_85, z172_86, z172_89, z172_90, sm_cti, sm_ctr, sm_ctn, sm_nbi, Option.toList_some, Option.toList_none, List.cons_append, List.nil_append, ne_eq, reduceCtorEq, not_false_eq_true, Nat.reduceLeDiff, if_true, if_false, not_true_eq_false, not_false_eq_true, and_true, true_and, and_false, false_and, and_self, or_true, true_or, or_false, false_or, reduceIte, iff_self, Int32.add_zero, y_10, Classical.not_not]
        exact hK I3 _ m3 (fun hw => by rw [← hvr, ← hu hw]; unfold jn; simp [h, y_lt, hu0])
    · simp only [h, d1, z172_1, z172_4, z172_5, z172_6, z172_9, z172_10, z172_11, z172_14, z172_17, z172_18, z172_20, z172_23, z172_24, z172_26, z172_29, z172_30, z172_32, z172_35, z172_36, z172_37, z172_38, z172_39, z172_42, z172_43, z172_44, z172_47, z172_48, z172_51, z172_52, z172_53, z172_55, z172_58, z172_59, z172_60, z172_63, z172_66, z172_67, z172_69, z172_72, z172_73, z172_74, z172_77, z172_80, z172_81, z172_82, z172_85, z172_86, z172_89, z172_90, sm_cti, sm_ctr, sm_ctn, sm_nbi, Option.toList_some, Option.toList_none, List.cons_append, List.nil_append, ne_eq, reduceCtorEq, not_false_eq_true, Nat.reduceLeDiff, kc103, rc103, m1.2.1, nI_1, if_true, if_false, not_true_eq_false, not_false_eq_true, and_true, true_and, and_false, false_and, and_self, or_true, true_or, or_false, false_or, reduceIte, iff_self, Int32.add_zero, y_10, Classical.not_not]
      refine goon _ (fun I3 u m3 hu => ?_)
      simp only [z172_1, z172_4, z172_5, z172_6, z172_9, z172_10, z172_11, z172_14, z172_17, z172_18, z172_20, z172_23, z172_24, z172_26, z172_29, z172_30, z172_32, z172_35, z172_36, z172_37, z172_38, z172_39, z172_42, z172_43, z172_44, z172_47, z172_48, z172_51, z172_52, z172_53, z172_55, z172_58, z172_59, z172_60, z172_63, z172_66, z172_67, z172_69, z172_72, z172_73, z172_74, z172_77, z172_80, z172_81, z172_82, z172_85, z172_86, z172_89, z172_90, sm_cti, sm_ctr, sm_ctn, sm_nbi, Option.toList_some, Option.toList_none, List.cons_append, List.nil_append, ne_eq, reduceCtorEq, not_false_eq_true, Nat.reduceLeDiff, show nI 61 = 61 from rfl, show ¬ (61 : Int32) = 60 by decide, if_true, if_false, not_true_eq_false, not_false_eq_true, and_true, true_and, and_false, false_and, and_self, or_true, true_or, or_false, false_or, reduceIte, iff_self, Int32.add_zero, y_10, Classical.not_not]
      by_cases hu0 : v = u
      · simp only [hu0, z172_1, z172_4, z172_5, z172_6, z172_9, z172_10, z172_11, z172_14, z172_17, z172_18, z172_20, z172_23, z172_24, z172_26, z172_29, z172_30, z172_32, z172_35, z172_36, z172_37, z172_38, z172_39, z172_42, z172_43, z172_44, z172_47, z172_48, z172_51, z172_52, z172_53, z172_55, z172_58, z172_59, z172_60, z172_63, z172_66, z172_67, z172_69, z172_72, z172_73, z172_74, z172_77, z172_80, z172_81, z172_82, z172_85, z172_86, z172_89, z172_90, sm_cti, sm_ctr, sm_ctn, sm_nbi, Option.toList_some, Option.toList_none, List.cons_append, List.nil_append, ne_eq, reduceCtorEq, not_false_eq_true, Nat.reduceLeDiff, if_true, if_false, not_true_eq_false, not_false_eq_true, and_true, true_and, and_false, false_and, and_self, or_true, true_or, or_false, false_or, reduceIte, iff_self, Int32.add_zero, y_10, Classical.not_not]
        exact hK I3 _ m3 (fun hw => by rw [← hvr, ← hu hw]; unfold jn; simp [h, hu0])
      · simp only [hu0, z172_1, z172_4, z172_5, z172_6, z172_9, z172_10, z172_11, z172_14, z172_17, z172_18, z172_20, z172_23, z172_24, z172_26, z172_29, z172_30, z172_32, z172_35, z172_36, z172_37, z172_38, z172_39, z172_42, z172_43, z172_44, z172_47, z172_48, z172_51, z172_52, z172_53, z172_55, z172_58, z172_59, z172_60, z172_63, z172_66, z172_67, z172_69, z172_72, z172_73, z172_74, z172_77, z172_80, z172_81, z172_82, z172_85, z172_86, z172_89, z172_90, sm_cti, sm_ctr, sm_ctn, sm_nbi, Option.toList_some, Option.toList_none, List.cons_append, List.nil_append, ne_eq, reduceCtorEq, not_false_eq_true, Nat.reduceLeDiff, if_true, if_false, not_true_eq_false, not_false_eq_true, and_true, true_and, and_false, false_and, and_self, or_true, true_or, or_false, false_or, reduceIte, iff_self, Int32.add_zero, y_10, Classical.not_not]
        exact hK I3 _ m3 (fun hw => by rw [← hvr, ← hu hw]; unfold jn; simp [h, hu0])
    · simp only [h, d2, d3, z172_1, z172_4, z172_5, z172_6, z172_9, z172_10, z172_11, z172_14, z172_17, z172_18, z172_20, z172_23, z172_24, z172_26, z172_29, z172_30, z172_32, z172_35, z172_36, z172_37, z172_38, z172_39, z172_42, z172_43, z172_44, z172_47, z172_48, z172_51, z172_52, z172_53, z172_55, z172_58, z172_59, z172_60, z172_63, z172_66, z172_67, z172_69, z172_72, z172_73, z172_74, z172_77, z172_80, z172_81, z172_82, z172_85, z172_86, z172_89, z172_90, sm_cti, sm_ctr, sm_ctn, sm_nbi, Option.toList_some, Option.toList_none, List.cons_append, List.nil_append, ne_eq, reduceCtorEq, not_false_eq_true, Nat.reduceLeDiff, kc103, rc103, m1.2.1, nI_1, if_true, if_false, not_true_eq_false, not_false_eq_true, and_true, true_and, and_false, false_and, and_self, or_true, true_or, or_false, false_or, reduceIte, iff_self, Int32.add_zero, y_10, Classical.not_not]
      refine goon _ (fun I3 u m3 hu => ?_)
      simp only [z172_1, z172_4, z172_5, z172_6, z172_9, z172_10, z172_11, z172_14, z172_17, z172_18, z172_20, z172_23, z172_24, z172_26, z172_29, z172_30, z172_32, z172_35, z172_36, z172_37, z172_38, z172_39, z172_42, z172_43, z172_44, z172_47, z172_48, z172_51, z172_52, z172_53, z172_55, z172_58, z172_59, z172_60, z172_63, z172_66, z172_67, z172_69, z172_72, z172_73, z172_74, z172_77, z172_80, z172_81, z172_82, z172_85, z172_86, z172_89, z172_90, sm_cti, sm_ctr, sm_ctn, sm_nbi, Option.toList_some, Option.toList_none, List.cons_append, List.nil_append, ne_eq, reduceCtorEq, not_false_eq_true, Nat.reduceLeDiff, show nI 62 = 62 from rfl, show ¬ (62 : Int32) = 60 by decide, show ¬ (62 : Int32) = 61 by decide, y_lt, if_true, if_false, not_true_eq_false, not_false_eq_true, and_true, true_and, and_false, false_and, and_self, or_true, true_or, or_false, false_or, reduceIte, iff_self, Int32.add_zero, y_10, Classical.not_not]
      by_cases hu0 : v ≤ u
      · simp only [hu0, z172_1, z172_4, z172_5, z172_6, z172_9, z172_10, z172_11, z172_14, z172_17, z172_18, z172_20, z172_23, z172_24, z172_26, z172_29, z172_30, z172_32, z172_35, z172_36, z172_37, z172_38, z172_39, z172_42, z172_43, z172_44, z172_47, z172_48, z172_51, z172_52, z172_53, z172_55, z172_58, z172_59, z172_60, z172_63, z172_66, z172_67, z172_69, z172_72, z172_73, z172_74, z172_77, z172_80, z172_81, z172_82, z172_85, z172_86, z172_89, z172_90, sm_cti, sm_ctr, sm_ctn, sm_nbi, Option.toList_some, Option.toList_none, List.cons_append, List.nil_append, ne_eq, reduceCtorEq, not_false_eq_true, Nat.reduceLeDiff, if_true, if_false, not_true_eq_false, not_false_eq_true, and_true, true_and, and_false, false_and, and_self, or_true, true_or, or_false, false_or, reduceIte, iff_self, Int32.add_zero, y_10, Classical.not_not]
        exact hK I3 _ m3 (fun hw => by rw [← hvr, ← hu hw]; unfold jn; simp [h, y_lt, hu0])
      · simp only [hu0, z172_1, z172_4, z172_5, z172_6, z172_9, z172_10, z172_11, z172_14, z172_17, z172_18, z172_20, z172_23, z172_24, z172_26, z172_29, z172_30, z172_32, z172_35, z172_36, z172_37, z172_38, z172_39, z172_42, z172_43, z172_44, z172_47, z172_48, z172_51, z172_52, z172_53, z172_55, z172_58, z172_59, z172_60, z172_63, z172_66, z172_67, z172_69, z172_72, z172_73, z172_74, z172_77, z172_80, z172_81, z172_82, z172_85, z172_86, z172_89, z172_90, sm_cti, sm_ctr, sm_ctn, sm_nbi, Option.toList_some, Option.toList_none, List.cons_append, List.nil_append, ne_eq, reduceCtorEq, not_false_eq_true, Nat.reduceLeDiff, if_true, if_false, not_true_eq_false, not_false_eq_true, and_true, true_and, and_false, false_and, and_self, or_true, true_or, or_false, false_or, reduceIte, iff_self, Int32.add_zero, y_10, Classical.not_not]
        exact hK I3 _ m3 (fun hw => by rw [← hvr, ← hu hw]; unfold jn; simp [h, y_lt, hu0])
  · have hpl : pl t N (sgs 2) op 1 (op a) = op a := by rw [pl, if_neg hc]
    simp only [hpl] at hK
    have fin := hK I1 v m1 hv
    cases hwr : (op a).2.1 with
    | true =>
      have wf := m1.2.2.2 hwr
      have w0 : (0 : Int32) ≤ nI (op a).1 := nI_pos' (by omega)
      simp only [wf, w0, if_true, if_false, not_true_eq_false, not_false_eq_true, and_true, true_and, and_false, false_and, and_self, or_true, true_or, or_false, false_or, reduceIte, iff_self, Int32.add_zero, y_10, Classical.not_not]
      exact fin
    | false =>
      obtain ⟨u1, u2⟩ := m1.2.2.1 hwr
      have n60 : ¬ nI (bt t N (op a).1) = 60 := fun z => by
        have z2 := (nI_eq (b := 60) (by omega) (by decide)).mp z
        have z3 := (bt_eq (by decide)).mp z2
        exact hc ⟨hwr, z3.1, by rw [z3.2]; decide⟩
      have n61 : ¬ nI (bt t N (op a).1) = 61 := fun z => by
        have z2 := (nI_eq (b := 61) (by omega) (by decide)).mp z
        have z3 := (bt_eq (by decide)).mp z2
        exact hc ⟨hwr, z3.1, by rw [z3.2]; decide⟩
      have n62 : ¬ nI (bt t N (op a).1) = 62 := fun z => by
        have z2 := (nI_eq (b := 62) (by omega) (by decide)).mp z
        have z3 := (bt_eq (by decide)).mp z2
        exact hc ⟨hwr, z3.1, by rw [z3.2]; decide⟩
      simp only [u1, ey2, n60, n61, n62, if_true, if_false, not_true_eq_false, not_false_eq_true, and_true, true_and, and_false, false_and, and_self, or_true, true_or, or_false, false_or, reduceIte, iff_self, Int32.add_zero, y_10, Classical.not_not]
      exact fin
/-- an expression, out of an operand -/
theorem m_levels {dd o : Nat} {op : Nat → pR} (hs : mrd t N 176 (dd + 2) [.ref 103, .null, .null, .null, .null] o op) (hg : gp N op) : mrd t N 170 (dd + 7) [.ref 103, .null, .null] o (pv t N op 5) := by
  have l1 := m_prod hs hg
  have l2 := m_sums (op := pv t N op 1) (dd := dd + 1) l1 (pv_gp t N hg 1)
  have l3 := m_cmp (op := pv t N op 2) (dd := dd + 2) l2 (pv_gp t N hg 2)
  have l4 := m_both (op := pv t N op 3) (dd := dd + 3) l3 (pv_gp t N hg 3)
  exact m_either (op := pv t N op 4) (dd := dd + 4) l4 (pv_gp t N hg 4)
theorem m_nameOf (d n : Nat) (I : sm_I) (J : sm_J) (K : Option Value → sm_H → Prop) {c : Nat} (hc : c < 256) : sm_Ok d 175 0 [.int (nI c)] [] (sm_SH n, I, J) K ↔ K (some (.int (if nmi c < 6 then nI (nmi c) else -1))) (sm_SH n, I, J) := by
  have e : ∀ k : Nat, k < 256 → (nI c = nI k) = (c = k) := fun k hk => propext (nI_eq (by omega) (by omega))
  have e118 : (nI c = 118) = (c = 118) := e 118 (by decide)
  have e104 : (nI c = 104) = (c = 104) := e 104 (by decide)
  have e109 : (nI c = 109) = (c = 109) := e 109 (by decide)
  have e115 : (nI c = 115) = (c = 115) := e 115 (by decide)
  have e110 : (nI c = 110) = (c = 110) := e 110 (by decide)
  have e101 : (nI c = 101) = (c = 101) := e 101 (by decide)
  by_cases h1 : c = 118
  · subst h1
    simp +decide only [show nI 118 = 118 from rfl, show nI (nmi 118) = 0 by decide, z175_0, z175_1, z175_88, z175_89, z175_90, z175_91, z175_92, z175_93, z175_94, z175_95, z175_96, z175_97, z175_98, z175_99, z175_100, z175_101, sm_cti, sm_ctr, sm_ctn, sm_nbi, Option.toList_some, Option.toList_none, List.cons_append, List.nil_append, ne_eq, reduceCtorEq, not_false_eq_true, Nat.reduceLeDiff, if_true, if_false, not_true_eq_false, not_false_eq_true, and_true, true_and, and_false, false_and, and_self, or_true, true_or, or_false, false_or, reduceIte, iff_self, Int32.add_zero, y_10, Classical.not_not]
  · by_cases h2 : c = 104
    · subst h2
      simp +decide only [show nI 104 = 104 from rfl, show nI (nmi 104) = 1 by decide, z175_0, z175_1, z175_88, z175_89, z175_90, z175_91, z175_92, z175_93, z175_94, z175_95, z175_96, z175_97, z175_98, z175_99, z175_100, z175_101, sm_cti, sm_ctr, sm_ctn, sm_nbi, Option.toList_some, Option.toList_none, List.cons_append, List.nil_append, ne_eq, reduceCtorEq, not_false_eq_true, Nat.reduceLeDiff, if_true, if_false, not_true_eq_false, not_false_eq_true, and_true, true_and, and_false, false_and, and_self, or_true, true_or, or_false, false_or, reduceIte, iff_self, Int32.add_zero, y_10, Classical.not_not]
    · by_cases h3 : c = 109
      · subst h3
        simp +decide only [show nI 109 = 109 from rfl, show nI (nmi 109) = 2 by decide, z175_0, z175_1, z175_88, z175_89, z175_90, z175_91, z175_92, z175_93, z175_94, z175_95, z175_96, z175_97, z175_98, z175_99, z175_100, z175_101, sm_cti, sm_ctr, sm_ctn, sm_nbi, Option.toList_some, Option.toList_none, List.cons_append, List.nil_append, ne_eq, reduceCtorEq, not_false_eq_true, Nat.reduceLeDiff, if_true, if_false, not_true_eq_false, not_false_eq_true, and_true, true_and, and_false, false_and, and_self, or_true, true_or, or_false, false_or, reduceIte, iff_self, Int32.add_zero, y_10, Classical.not_not]
      · by_cases h4 : c = 115
        · subst h4
          simp +decide only [show nI 115 = 115 from rfl, show nI (nmi 115) = 3 by decide, z175_0, z175_1, z175_88, z175_89, z175_90, z175_91, z175_92, z175_93, z175_94, z175_95, z175_96, z175_97, z175_98, z175_99, z175_100, z175_101, sm_cti, sm_ctr, sm_ctn, sm_nbi, Option.toList_some, Option.toList_none, List.cons_append, List.nil_append, ne_eq, reduceCtorEq, not_false_eq_true, Nat.reduceLeDiff, if_true, if_false, not_true_eq_false, not_false_eq_true, and_true, true_and, and_false, false_and, and_self, or_true, true_or, or_false, false_or, reduceIte, iff_self, Int32.add_zero, y_10, Classical.not_not]
        · by_cases h5 : c = 110
          · subst h5
            simp +decide only [show nI 110 = 110 from rfl, show nI (nmi 110) = 4 by decide, z175_0, z175_1, z175_88, z175_89, z175_90, z175_91, z175_92, z175_93, z175_94, z175_95, z175_96, z175_97, z175_98, z175_99, z175_100, z175_101, sm_cti, sm_ctr, sm_ctn, sm_nbi, Option.toList_some, Option.toList_none, List.cons_append, List.nil_append, ne_eq, reduceCtorEq, not_false_eq_true, Nat.reduceLeDiff, if_true, if_false, not_true_eq_false, not_false_eq_true, and_true, true_and, and_false, false_and, and_self, or_true, true_or, or_false, false_or, reduceIte, iff_self, Int32.add_zero, y_10, Classical.not_not]
          · by_cases h6 : c = 101
            · subst h6
              simp +decide only [show nI 101 = 101 from rfl, show nI (nmi 101) = 5 by decide, z175_0, z175_1, z175_88, z175_89, z175_90, z175_91, z175_92, z175_93, z175_94, z175_95, z175_96, z175_97, z175_98, z175_99, z175_100, z175_101, sm_cti, sm_ctr, sm_ctn, sm_nbi, Option.toList_some, Option.toList_none, List.cons_append, List.nil_append, ne_eq, reduceCtorEq, not_false_eq_true, Nat.reduceLeDiff, if_true, if_false, not_true_eq_false, not_false_eq_true, and_true, true_and, and_false, false_and, and_self, or_true, true_or, or_false, false_or, reduceIte, iff_self, Int32.add_zero, y_10, Classical.not_not]
            · have hn : ¬ nmi c < 6 := by
                unfold nmi
                rw [if_neg h1, if_neg h2, if_neg h3, if_neg h4, if_neg h5, if_neg h6]
                decide
              simp only [z175_0, z175_1, z175_88, z175_89, z175_90, z175_91, z175_92, z175_93, z175_94, z175_95, z175_96, z175_97, z175_98, z175_99, z175_100, z175_101, sm_cti, sm_ctr, sm_ctn, sm_nbi, Option.toList_some, Option.toList_none, List.cons_append, List.nil_append, ne_eq, reduceCtorEq, not_false_eq_true, Nat.reduceLeDiff, e118, e104, e109, e115, e110, e101, h1, h2, h3, h4, h5, h6, hn, ite_self, if_true, if_false, not_true_eq_false, not_false_eq_true, and_true, true_and, and_false, false_and, and_self, or_true, true_or, or_false, false_or, reduceIte, iff_self, Int32.add_zero, y_10, Classical.not_not]
end
