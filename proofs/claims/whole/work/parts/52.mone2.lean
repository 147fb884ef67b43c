/-! how the reference reads a text: operands -/
section
variable {t : Nat → Nat} {N : Nat}
theorem m_num_lp {I : sm_I} (hT : mtp t N I) (x1 : Value) (x2 : Int32) (d n : Nat) (J : sm_J) (K : Option Value → sm_H → Prop) : ∀ (j k a v : Nat), k + j = 4 → a ≤ N →
    sm_Ok (d + 1) 176 229 [.ref 103, x1, .int x2, .int (nI (pn t N j a v).2), .int (nI (k + ((pn t N j a v).1 - a)))] [] (sm_SH n, sm_uI I 103 15 (nI (pn t N j a v).1), J) K →
    sm_Ok (d + 1) 176 176 [.ref 103, x1, .int x2, .int (nI v), .int (nI k)] [] (sm_SH n, sm_uI I 103 15 (nI a), J) K
  | 0, k, a, v, hk, ha, hK => by
    have h4 : (4 : Int32) ≤ nI k := nI_le (a := 4) (b := k) (by omega) (by omega)
    rw [z176_176]
    simp only [z176_178, z176_179, sm_cti, sm_ctr, sm_ctn, sm_nbi, Option.toList_some, Option.toList_none, List.cons_append, List.nil_append, ne_eq, reduceCtorEq, not_false_eq_true, Nat.reduceLeDiff, h4, if_true, if_false, not_true_eq_false, not_false_eq_true, and_true, true_and, and_false, false_and, and_self, or_true, true_or, or_false, false_or, reduceIte, iff_self, Int32.add_zero, y_10, Classical.not_not]
    simpa only [pn, Nat.sub_self, Nat.add_zero] using hK
  | j + 1, k, a, v, hk, ha, hK => by
    have h4 : ¬ (4 : Int32) ≤ nI k := nI_ge (a := k) (b := 4) (by omega) (by decide)
    have tp : mtp t N (sm_uI I 103 15 (nI a)) := by
      obtain ⟨h1, h2, h3, h4⟩ := hT
      refine ⟨h1, by rw [uI_o _ _ (by omega), h2], h3, ?_⟩
      rcases h4 with ⟨b1, b2⟩ | ⟨b1, b2⟩
      · exact Or.inl ⟨by rw [uI_o _ _ (by omega), b1], fun j hj => by rw [uI_o _ _ (by omega), b2 j hj]⟩
      · exact Or.inr ⟨by rw [uI_o _ _ (by omega), b1], fun j hj => by rw [uI_o _ _ (by omega), b2 j hj]⟩
    have hb := bt_lt hT a
    have by1 := fun d K => m_byteAt tp d n J K ha (uI_s _ _ _ _)
    have e48 : (nI (bt t N a) < 48) = (bt t N a < 48) := propext (nI_ltI (b := 48) (by omega) (by decide))
    have e57 : ((57 : Int32) < nI (bt t N a)) = (57 < bt t N a) := propext (nI_ltI (a := 57) (by decide) (by omega))
    have e15 : sm_uI I 103 15 (nI a) 103 15 = nI a := uI_s _ _ _ _
    by_cases hc : a < N ∧ 48 ≤ t a ∧ t a ≤ 57
    · have hbt : bt t N a = t a := by unfold bt; rw [if_pos hc.1]
      rw [hbt] at e48 e57
      have hp : pn t N (j + 1) a v = pn t N j (a + 1) (10 * v + (t a - 48)) := by rw [pn, if_pos hc]
      have hle := pn_le t N j (a + 1) (10 * v + (t a - 48)) (by omega)
      rw [hp, show k + ((pn t N j (a + 1) (10 * v + (t a - 48))).1 - a) = k + 1 + ((pn t N j (a + 1) (10 * v + (t a - 48))).1 - (a + 1)) by omega] at hK
      have ev : (10 : Int32) * nI v + nI (t a) - 48 = nI (10 * v + (t a - 48)) := by
        rw [show (10 : Int32) = nI 10 from rfl, nI_mul, nI_add, show (48 : Int32) = nI 48 from rfl, nI_sub (by omega)]
        congr 1
        omega
      have n1 : ¬ t a < 48 := by omega
      have n2 : ¬ 57 < t a := by omega
      have ih := m_num_lp hT x1 x2 d n J K j (k + 1) (a + 1) (10 * v + (t a - 48)) (by omega) (by omega) hK
      rw [z176_176]
      simp only [z176_178, z176_179, z176_182, z176_183, z176_186, z176_188, z176_191, z176_192, z176_195, z176_197, z176_200, z176_202, z176_203, z176_204, z176_205, z176_208, z176_209, z176_211, z176_212, z176_213, z176_216, z176_217, z176_218, z176_221, z176_222, z176_223, z176_226, sm_cti, sm_ctr, sm_ctn, sm_nbi, Option.toList_some, Option.toList_none, List.cons_append, List.nil_append, ne_eq, reduceCtorEq, not_false_eq_true, Nat.reduceLeDiff, kc103, rc103, h4, by1, e48, e57, hbt, n1, n2, ev, e15, nI_1, uI_uI, if_true, if_false, not_true_eq_false, not_false_eq_true, and_true, true_and, and_false, false_and, and_self, or_true, true_or, or_false, false_or, reduceIte, iff_self, Int32.add_zero, y_10, Classical.not_not]
      exact ih
    · have hp : pn t N (j + 1) a v = (a, v) := by rw [pn, if_neg hc]
      rw [hp, Nat.sub_self, Nat.add_zero] at hK
      have hn : bt t N a < 48 ∨ 57 < bt t N a := by
        unfold bt
        split
        · omega
        · omega
      rw [z176_176]
      simp only [z176_178, z176_179, z176_182, z176_183, z176_186, z176_188, sm_cti, sm_ctr, sm_ctn, sm_nbi, Option.toList_some, Option.toList_none, List.cons_append, List.nil_append, ne_eq, reduceCtorEq, not_false_eq_true, Nat.reduceLeDiff, kc103, rc103, h4, by1, e48, e57, if_true, if_false, not_true_eq_false, not_false_eq_true, and_true, true_and, and_false, false_and, and_self, or_true, true_or, or_false, false_or, reduceIte, iff_self, Int32.add_zero, y_10, Classical.not_not]
      by_cases h8 : bt t N a < 48
      · simp only [h8, if_true, if_false, not_true_eq_false, not_false_eq_true, and_true, true_and, and_false, false_and, and_self, or_true, true_or, or_false, false_or, reduceIte, iff_self, Int32.add_zero, y_10, Classical.not_not]
        exact hK
      · have h9 := hn.resolve_left h8
        simp only [h8, z176_191, z176_192, z176_195, z176_197, sm_cti, sm_ctr, sm_ctn, sm_nbi, Option.toList_some, Option.toList_none, List.cons_append, List.nil_append, ne_eq, reduceCtorEq, not_false_eq_true, Nat.reduceLeDiff, rc103, by1, e57, h9, if_true, if_false, not_true_eq_false, not_false_eq_true, and_true, true_and, and_false, false_and, and_self, or_true, true_or, or_false, false_or, reduceIte, iff_self, Int32.add_zero, y_10, Classical.not_not]
        exact hK
theorem m_one_pd (r : Nat) (d n : Nat) (J : sm_J) (K : Option Value → sm_H → Prop) (I : sm_I) (a : Nat) (h1 : mtp t N I) (h2 : a ≤ N) (h3 : I 103 15 = nI a) (h4 : I 103 17 = -1) (hO : ¬ (a < N ∧ isO (t a) = true))
    (hK : ∀ (I' : sm_I) (v : Int32), mpo (po t N r a).1 (po t N r a).2.1 I I' → ((po t N r a).2.1 = false → v = (po t N r a).2.2.2 (I 112)) → K (some (.int v)) (sm_SH n, I', J)) : sm_Ok (d + 2) 176 0 [.ref 103, .null, .null, .null, .null] [] (sm_SH n, I, J) K := by
  have hN := h1.1
  have hb := bt_lt h1 a
  have ep : po t N r a = pd t N a := by
    match r with
    | 0 => unfold po; simp only [if_neg hO]
    | r + 1 => unfold po; simp only [if_neg hO]
  rw [ep] at hK
  have ne : ∀ c : Nat, (c = 33 ∨ c = 45 ∨ c = 40) → ¬ nI (bt t N a) = nI c := fun c hc z => by
    have z2 := (nI_eq (by omega) (by omega)).mp z
    have z3 := (bt_eq (by omega)).mp z2
    exact hO ⟨z3.1, by rw [z3.2]; rcases hc with rfl | rfl | rfl <;> decide⟩
  have n33 : ¬ nI (bt t N a) = 33 := ne 33 (by decide)
  have n45 : ¬ nI (bt t N a) = 45 := ne 45 (by decide)
  have n40 : ¬ nI (bt t N a) = 40 := ne 40 (by decide)
  have hF : (-1 : Int32) < 0 := by decide
  rw [z176_0]
  simp only [z176_1, z176_4, z176_7, z176_8, z176_9, z176_10, z176_13, z176_14, z176_15, z176_17, z176_20, z176_21, z176_23, z176_26, z176_27, z176_29, z176_32, z176_33, z176_36, z176_38, z176_41, z176_42, z176_45, z176_46, z176_47, z176_48, z176_51, z176_52, z176_53, z176_56, z176_57, z176_58, z176_61, z176_62, z176_63, z176_66, z176_67, z176_69, z176_72, z176_73, z176_76, z176_79, z176_80, z176_83, z176_84, z176_85, z176_87, z176_90, z176_91, z176_93, z176_96, z176_99, z176_100, z176_103, z176_104, z176_105, z176_106, z176_109, z176_110, z176_111, z176_114, z176_115, z176_117, z176_120, z176_121, z176_124, z176_125, z176_127, z176_130, z176_131, z176_132, z176_135, z176_136, z176_139, z176_140, z176_143, z176_144, z176_145, z176_146, z176_149, z176_150, z176_151, z176_154, z176_155, z176_156, z176_159, z176_160, z176_161, z176_164, z176_165, z176_168, z176_169, z176_170, z176_171, z176_172, z176_173, z176_174, z176_178, z176_179, z176_182, z176_183, z176_186, z176_188, z176_191, z176_192, z176_195, z176_197, z176_200, z176_202, z176_203, z176_204, z176_205, z176_208, z176_209, z176_211, z176_212, z176_213, z176_216, z176_217, z176_218, z176_221, z176_222, z176_223, z176_226, z176_229, z176_231, z176_234, z176_235, z176_238, z176_241, z176_242, sm_cti, sm_ctr, sm_ctn, sm_nbi, Option.toList_some, Option.toList_none, List.cons_append, List.nil_append, ne_eq, reduceCtorEq, not_false_eq_true, Nat.reduceLeDiff, kc103, rc103, h4, hF, m_byteAt h1 _ _ _ _ h2 h3, n33, n45, n40, m_nameOf _ _ _ _ _ hb, h3, nI_1, if_true, if_false, not_true_eq_false, not_false_eq_true, and_true, true_and, and_false, false_and, and_self, or_true, true_or, or_false, false_or, reduceIte, iff_self, Int32.add_zero, y_10, Classical.not_not]
  unfold pd at hK
  by_cases hn : a < N ∧ nmi (t a) < 6
  · have hbt : bt t N a = t a := by unfold bt; rw [if_pos hn.1]
    rw [hbt]
    simp only [if_pos hn] at hK
    have e0 : ¬ nI (nmi (t a)) < 0 := nI_pos (by omega)
    have f112 : sm_uI I 103 15 (nI (a + 1)) 112 (nmi (t a)) = I 112 (nmi (t a)) := uI_q _ _ (by omega)
    simp only [hn.2, e0, z176_1, z176_4, z176_7, z176_8, z176_9, z176_10, z176_13, z176_14, z176_15, z176_17, z176_20, z176_21, z176_23, z176_26, z176_27, z176_29, z176_32, z176_33, z176_36, z176_38, z176_41, z176_42, z176_45, z176_46, z176_47, z176_48, z176_51, z176_52, z176_53, z176_56, z176_57, z176_58, z176_61, z176_62, z176_63, z176_66, z176_67, z176_69, z176_72, z176_73, z176_76, z176_79, z176_80, z176_83, z176_84, z176_85, z176_87, z176_90, z176_91, z176_93, z176_96, z176_99, z176_100, z176_103, z176_104, z176_105, z176_106, z176_109, z176_110, z176_111, z176_114, z176_115, z176_117, z176_120, z176_121, z176_124, z176_125, z176_127, z176_130, z176_131, z176_132, z176_135, z176_136, z176_139, z176_140, z176_143, z176_144, z176_145, z176_146, z176_149, z176_150, z176_151, z176_154, z176_155, z176_156, z176_159, z176_160, z176_161, z176_164, z176_165, z176_168, z176_169, z176_170, z176_171, z176_172, z176_173, z176_174, z176_178, z176_179, z176_182, z176_183, z176_186, z176_188, z176_191, z176_192, z176_195, z176_197, z176_200, z176_202, z176_203, z176_204, z176_205, z176_208, z176_209, z176_211, z176_212, z176_213, z176_216, z176_217, z176_218, z176_221, z176_222, z176_223, z176_226, z176_229, z176_231, z176_234, z176_235, z176_238, z176_241, z176_242, sm_cti, sm_ctr, sm_ctn, sm_nbi, Option.toList_some, Option.toList_none, List.cons_append, List.nil_append, ne_eq, reduceCtorEq, not_false_eq_true, Nat.reduceLeDiff, kc103, kc112, rf103_19, y_inN hn.2 (by decide), nI_clamp (show nmi (t a) < 2 ^ 31 by omega), f112, if_true, if_false, not_true_eq_false, not_false_eq_true, and_true, true_and, and_false, false_and, and_self, or_true, true_or, or_false, false_or, reduceIte, iff_self, Int32.add_zero, y_10, Classical.not_not]
    exact hK _ _ (mpo_at h4) (fun _ => rfl)
  · simp only [if_neg hn] at hK
    have hn2 : ¬ nmi (bt t N a) < 6 := by
      unfold bt
      split
      · exact fun z => hn ⟨by assumption, z⟩
      · decide
    simp only [hn2, hF, if_true, if_false, not_true_eq_false, not_false_eq_true, and_true, true_and, and_false, false_and, and_self, or_true, true_or, or_false, false_or, reduceIte, iff_self, Int32.add_zero, y_10, Classical.not_not]
    have e15 : sm_uI I 103 15 (nI a) = I := uI_id h3
    have lp := m_num_lp h1 (.int (nI (bt t N a))) (-1) (d + 1) n J K 4 0 a 0 (by omega) h2
    rw [e15, nI_0] at lp
    have hle := pn_le t N 4 a 0 h2
    refine lp ?_
    have F1 : sm_uI I 103 15 (nI (pn t N 4 a 0).1) 103 17 = -1 := by rw [uI_o _ _ (by omega), h4]
    have F2 : sm_uI I 103 15 (nI (pn t N 4 a 0).1) 103 15 = nI (pn t N 4 a 0).1 := uI_s _ _ _ _
    by_cases he : (pn t N 4 a 0).1 = a
    · simp only [if_pos he] at hK
      have e0 : nI (0 + ((pn t N 4 a 0).1 - a)) = 0 := by rw [he, Nat.sub_self]; rfl
      simp only [z176_1, z176_4, z176_7, z176_8, z176_9, z176_10, z176_13, z176_14, z176_15, z176_17, z176_20, z176_21, z176_23, z176_26, z176_27, z176_29, z176_32, z176_33, z176_36, z176_38, z176_41, z176_42, z176_45, z176_46, z176_47, z176_48, z176_51, z176_52, z176_53, z176_56, z176_57, z176_58, z176_61, z176_62, z176_63, z176_66, z176_67, z176_69, z176_72, z176_73, z176_76, z176_79, z176_80, z176_83, z176_84, z176_85, z176_87, z176_90, z176_91, z176_93, z176_96, z176_99, z176_100, z176_103, z176_104, z176_105, z176_106, z176_109, z176_110, z176_111, z176_114, z176_115, z176_117, z176_120, z176_121, z176_124, z176_125, z176_127, z176_130, z176_131, z176_132, z176_135, z176_136, z176_139, z176_140, z176_143, z176_144, z176_145, z176_146, z176_149, z176_150, z176_151, z176_154, z176_155, z176_156, z176_159, z176_160, z176_161, z176_164, z176_165, z176_168, z176_169, z176_170, z176_171, z176_172, z176_173, z176_174, z176_178, z176_179, z176_182, z176_183, z176_186, z176_188, z176_191, z176_192, z176_195, z176_197, z176_200, z176_202, z176_203, z176_204, z176_205, z176_208, z176_209, z176_211, z176_212, z176_213, z176_216, z176_217, z176_218, z176_221, z176_222, z176_223, z176_226, z176_229, z176_231, z176_234, z176_235, z176_238, z176_241, z176_242, sm_cti, sm_ctr, sm_ctn, sm_nbi, Option.toList_some, Option.toList_none, List.cons_append, List.nil_append, ne_eq, reduceCtorEq, not_false_eq_true, Nat.reduceLeDiff, kc103, rc103, e0, m_wrong _ _ _ _ F1, F2, if_true, if_false, not_true_eq_false, not_false_eq_true, and_true, true_and, and_false, false_and, and_self, or_true, true_or, or_false, false_or, reduceIte, iff_self, Int32.add_zero, y_10, Classical.not_not]
      rw [he]
      exact hK _ _ (mpo_tr (mpo_at (a := a) h4) (mpo_wr (uI_s _ _ _ _))) (fun h => by cases h)
    · simp only [if_neg he] at hK
      have e0 : ¬ nI (0 + ((pn t N 4 a 0).1 - a)) = 0 := nI_ne0 (by omega) (by omega)
      simp only [z176_1, z176_4, z176_7, z176_8, z176_9, z176_10, z176_13, z176_14, z176_15, z176_17, z176_20, z176_21, z176_23, z176_26, z176_27, z176_29, z176_32, z176_33, z176_36, z176_38, z176_41, z176_42, z176_45, z176_46, z176_47, z176_48, z176_51, z176_52, z176_53, z176_56, z176_57, z176_58, z176_61, z176_62, z176_63, z176_66, z176_67, z176_69, z176_72, z176_73, z176_76, z176_79, z176_80, z176_83, z176_84, z176_85, z176_87, z176_90, z176_91, z176_93, z176_96, z176_99, z176_100, z176_103, z176_104, z176_105, z176_106, z176_109, z176_110, z176_111, z176_114, z176_115, z176_117, z176_120, z176_121, z176_124, z176_125, z176_127, z176_130, z176_131, z176_132, z176_135, z176_136, z176_139, z176_140, z176_143, z176_144, z176_145, z176_146, z176_149, z176_150, z176_151, z176_154, z176_155, z176_156, z176_159, z176_160, z176_161, z176_164, z176_165, z176_168, z176_169, z176_170, z176_171, z176_172, z176_173, z176_174, z176_178, z176_179, z176_182, z176_183, z176_186, z176_188, z176_191, z176_192, z176_195, z176_197, z176_200, z176_202, z176_203, z176_204, z176_205, z176_208, z176_209, z176_211, z176_212, z176_213, z176_216, z176_217, z176_218, z176_221, z176_222, z176_223, z176_226, z176_229, z176_231, z176_234, z176_235, z176_238, z176_241, z176_242, sm_cti, sm_ctr, sm_ctn, sm_nbi, Option.toList_some, Option.toList_none, List.cons_append, List.nil_append, ne_eq, reduceCtorEq, not_false_eq_true, Nat.reduceLeDiff, e0, if_true, if_false, not_true_eq_false, not_false_eq_true, and_true, true_and, and_false, false_and, and_self, or_true, true_or, or_false, false_or, reduceIte, iff_self, Int32.add_zero, y_10, Classical.not_not]
      exact hK _ _ (mpo_at h4) (fun _ => rfl)
theorem m_one_0 (d n : Nat) (J : sm_J) (K : Option Value → sm_H → Prop) (I : sm_I) (a : Nat) (h1 : mtp t N I) (h2 : a ≤ N) (h3 : I 103 15 = nI a) (h4 : I 103 17 = -1) (h5 : I 103 18 = nI (6 - 0)) (hO : a < N ∧ isO (t a) = true)
    (hK : ∀ (I' : sm_I) (v : Int32), mpo (po t N 0 a).1 (po t N 0 a).2.1 I I' → ((po t N 0 a).2.1 = false → v = (po t N 0 a).2.2.2 (I 112)) → K (some (.int v)) (sm_SH n, I', J)) : sm_Ok (d + 2) 176 0 [.ref 103, .null, .null, .null, .null] [] (sm_SH n, I, J) K := by
  have hbt : bt t N a = t a := by unfold bt; rw [if_pos hO.1]
  have ep : po t N 0 a = (a, true, [], fun _ => 0) := by unfold po; simp only [if_pos hO]
  rw [ep] at hK
  have hF : (-1 : Int32) < 0 := by decide
  have h6 : nI (6 - 0) = 6 := rfl
  rw [h6] at h5
  have fin := hK _ 0 (mpo_wr h3) (fun h => by cases h)
  have hh : t a = 33 ∨ t a = 45 ∨ t a = 40 := by have := hO.2; simpa [isO, or_assoc] using this
  rw [z176_0]
  simp only [z176_1, z176_4, z176_7, z176_8, z176_9, z176_10, z176_13, z176_14, z176_15, z176_17, z176_20, z176_21, z176_23, z176_26, z176_27, z176_29, z176_32, z176_33, z176_36, z176_38, z176_41, z176_42, z176_45, z176_46, z176_47, z176_48, z176_51, z176_52, z176_53, z176_56, z176_57, z176_58, z176_61, z176_62, z176_63, z176_66, z176_67, z176_69, z176_72, z176_73, z176_76, z176_79, z176_80, z176_83, z176_84, z176_85, z176_87, z176_90, z176_91, z176_93, z176_96, z176_99, z176_100, z176_103, z176_104, z176_105, z176_106, z176_109, z176_110, z176_111, z176_114, z176_115, z176_117, z176_120, z176_121, z176_124, z176_125, z176_127, z176_130, z176_131, z176_132, z176_135, z176_136, z176_139, z176_140, z176_143, z176_144, z176_145, z176_146, z176_149, z176_150, z176_151, z176_154, z176_155, z176_156, z176_159, z176_160, z176_161, z176_164, z176_165, z176_168, z176_169, z176_170, z176_171, z176_172, z176_173, z176_174, z176_178, z176_179, z176_182, z176_183, z176_186, z176_188, z176_191, z176_192, z176_195, z176_197, z176_200, z176_202, z176_203, z176_204, z176_205, z176_208, z176_209, z176_211, z176_212, z176_213, z176_216, z176_217, z176_218, z176_221, z176_222, z176_223, z176_226, z176_229, z176_231, z176_234, z176_235, z176_238, z176_241, z176_242, sm_cti, sm_ctr, sm_ctn, sm_nbi, Option.toList_some, Option.toList_none, List.cons_append, List.nil_append, ne_eq, reduceCtorEq, not_false_eq_true, Nat.reduceLeDiff, kc103, rc103, h4, hF, m_byteAt h1 _ _ _ _ h2 h3, hbt, h5, m_wrong _ _ _ _ h4, h3, if_true, if_false, not_true_eq_false, not_false_eq_true, and_true, true_and, and_false, false_and, and_self, or_true, true_or, or_false, false_or, reduceIte, iff_self, Int32.add_zero, y_10, Classical.not_not]
  rcases hh with h | h | h
  · rw [h]
    simpa +decide only [show nI 33 = 33 from rfl, if_true, if_false, not_true_eq_false, not_false_eq_true, and_true, true_and, and_false, false_and, and_self, or_true, true_or, or_false, false_or, reduceIte, iff_self, Int32.add_zero, y_10, Classical.not_not] using fin
  · rw [h]
    simpa +decide only [show nI 45 = 45 from rfl, if_true, if_false, not_true_eq_false, not_false_eq_true, and_true, true_and, and_false, false_and, and_self, or_true, true_or, or_false, false_or, reduceIte, iff_self, Int32.add_zero, y_10, Classical.not_not] using fin
  · rw [h]
    simpa +decide only [show nI 40 = 40 from rfl, if_true, if_false, not_true_eq_false, not_false_eq_true, and_true, true_and, and_false, false_and, and_self, or_true, true_or, or_false, false_or, reduceIte, iff_self, Int32.add_zero, y_10, Classical.not_not] using fin
theorem mpo_open {a o : Nat} {wr : Bool} {I I2 : sm_I} {v : Int32} (h : mpo a wr (sm_uI I 103 18 v) I2) (ho : I 103 18 = nI o) : mpo a wr I (sm_uI I2 103 18 (nI o)) :=
  ⟨fun x b hx => by rw [uI_o _ _ (by omega), h.1 x b hx, uI_o _ _ (by omega)], by rw [uI_o _ _ (by omega), h.2.1], fun hw => ⟨by rw [uI_o _ _ (by omega), (h.2.2.1 hw).1], by rw [uI_s, ho]⟩, fun hw => by rw [uI_o _ _ (by omega), h.2.2.2 hw]⟩
theorem mpo_wo {a : Nat} {I I2 : sm_I} {v : Int32} (h : mpo a true (sm_uI I 103 18 v) I2) : mpo a true I I2 :=
  ⟨fun x b hx => by rw [h.1 x b hx, uI_o _ _ (by omega)], h.2.1, (fun h => by cases h), h.2.2.2⟩
theorem m_one_s {r : Nat} (hr : r + 1 ≤ 6) (ih : mrd t N 176 (4 + 6 * r) [.ref 103, .null, .null, .null, .null] (6 - r) (po t N r)) (d n : Nat) (J : sm_J) (K : Option Value → sm_H → Prop) (I : sm_I) (a : Nat) (h1 : mtp t N I) (h2 : a ≤ N) (h3 : I 103 15 = nI a) (h4 : I 103 17 = -1) (h5 : I 103 18 = nI (6 - (r + 1))) (hO : a < N ∧ isO (t a) = true)
    (hK : ∀ (I' : sm_I) (v : Int32), mpo (po t N (r + 1) a).1 (po t N (r + 1) a).2.1 I I' → ((po t N (r + 1) a).2.1 = false → v = (po t N (r + 1) a).2.2.2 (I 112)) → K (some (.int v)) (sm_SH n, I', J)) : sm_Ok (d + (4 + 6 * (r + 1))) 176 0 [.ref 103, .null, .null, .null, .null] [] (sm_SH n, I, J) K := by
  have hNN := h1.1
  have hbt : bt t N a = t a := by unfold bt; rw [if_pos hO.1]
  have hF : (-1 : Int32) < 0 := by decide
  have h6 : ¬ nI (6 - (r + 1)) = 6 := fun z => by have := (nI_eq (b := 6) (by omega) (by decide)).mp z; omega
  have eo : nI (6 - (r + 1)) + 1 = nI (6 - r) := by rw [nI_1]; congr 1; omega
  have eo2 : nI (6 - r) - 1 = nI (6 - (r + 1)) := by rw [show 6 - r = 6 - (r + 1) + 1 by omega, nI_pred]
  have A3 : sm_uI I 103 18 (nI (6 - r)) 103 15 = nI a := by rw [uI_o _ _ (by omega), h3]
  have hh : t a = 33 ∨ t a = 45 ∨ t a = 40 := by have := hO.2; simpa [isO, or_assoc] using this
  have m0 := mpo_at (a := a + 1) h4
  have c3 : sm_uI (sm_uI I 103 18 (nI (6 - r))) 103 15 (nI (a + 1)) = sm_uI (sm_uI I 103 15 (nI (a + 1))) 103 18 (nI (6 - r)) := by
    funext x b
    simp only [uI_at]
    (repeat' split) <;> first | rfl | omega
  have q1 : sm_uI I 103 15 (nI (a + 1)) 103 18 = nI (6 - (r + 1)) := by rw [uI_o _ _ (by omega), h5]
  have tpA : mtp t N (sm_uI (sm_uI I 103 15 (nI (a + 1))) 103 18 (nI (6 - r))) := by
    obtain ⟨k1, k2, k3, k4⟩ := h1
    refine ⟨k1, by rw [uI_o _ _ (by omega), uI_o _ _ (by omega), k2], k3, ?_⟩
    rcases k4 with ⟨b1, b2⟩ | ⟨b1, b2⟩
    · exact Or.inl ⟨by rw [uI_o _ _ (by omega), uI_o _ _ (by omega), b1], fun j hj => by rw [uI_o _ _ (by omega), uI_o _ _ (by omega), b2 j hj]⟩
    · exact Or.inr ⟨by rw [uI_o _ _ (by omega), uI_o _ _ (by omega), b1], fun j hj => by rw [uI_o _ _ (by omega), uI_o _ _ (by omega), b2 j hj]⟩
  have a4 : sm_uI (sm_uI I 103 15 (nI (a + 1))) 103 18 (nI (6 - r)) 103 15 = nI (a + 1) := by rw [uI_o _ _ (by omega), uI_s]
  have a5 : sm_uI (sm_uI I 103 15 (nI (a + 1))) 103 18 (nI (6 - r)) 103 18 = nI (6 - r) := uI_s _ _ _ _
  have a6 : sm_uI (sm_uI I 103 15 (nI (a + 1))) 103 18 (nI (6 - r)) 103 17 = -1 := by rw [uI_o _ _ (by omega), uI_o _ _ (by omega), h4]
  have nm0 : sm_uI (sm_uI I 103 15 (nI (a + 1))) 103 18 (nI (6 - r)) 112 = I 112 := by
    funext b
    rw [uI_o _ _ (by omega), uI_o _ _ (by omega)]
  rw [show d + (4 + 6 * (r + 1)) = d + (2 + 6 * r) + 8 by omega, z176_0]
  simp only [z176_1, z176_4, z176_7, z176_8, z176_9, z176_10, z176_13, z176_14, z176_15, z176_17, z176_20, z176_21, z176_23, z176_26, z176_27, z176_29, z176_32, z176_33, z176_36, z176_38, z176_41, z176_42, z176_45, z176_46, z176_47, z176_48, z176_51, z176_52, z176_53, z176_56, z176_57, z176_58, z176_61, z176_62, z176_63, z176_66, z176_67, z176_69, z176_72, z176_73, z176_76, z176_79, z176_80, z176_83, z176_84, z176_85, z176_87, z176_90, z176_91, z176_93, z176_96, z176_99, z176_100, z176_103, z176_104, z176_105, z176_106, z176_109, z176_110, z176_111, z176_114, z176_115, z176_117, z176_120, z176_121, z176_124, z176_125, z176_127, z176_130, z176_131, z176_132, z176_135, z176_136, z176_139, z176_140, z176_143, z176_144, z176_145, z176_146, z176_149, z176_150, z176_151, z176_154, z176_155, z176_156, z176_159, z176_160, z176_161, z176_164, z176_165, z176_168, z176_169, z176_170, z176_171, z176_172, z176_173, z176_174, z176_178, z176_179, z176_182, z176_183, z176_186, z176_188, z176_191, z176_192, z176_195, z176_197, z176_200, z176_202, z176_203, z176_204, z176_205, z176_208, z176_209, z176_211, z176_212, z176_213, z176_216, z176_217, z176_218, z176_221, z176_222, z176_223, z176_226, z176_229, z176_231, z176_234, z176_235, z176_238, z176_241, z176_242, sm_cti, sm_ctr, sm_ctn, sm_nbi, Option.toList_some, Option.toList_none, List.cons_append, List.nil_append, ne_eq, reduceCtorEq, not_false_eq_true, Nat.reduceLeDiff, kc103, rc103, h4, hF, m_byteAt h1 _ _ _ _ h2 h3, hbt, h5, h6, eo, A3, nI_1, c3, if_true, if_false, not_true_eq_false, not_false_eq_true, and_true, true_and, and_false, false_and, and_self, or_true, true_or, or_false, false_or, reduceIte, iff_self, Int32.add_zero, y_10, Classical.not_not]
  by_cases h40 : t a = 40
  · have ep : po t N (r + 1) a = (if (pv t N (po t N r) 5 (a + 1)).2.1 = false ∧ (pv t N (po t N r) 5 (a + 1)).1 < N ∧ t (pv t N (po t N r) 5 (a + 1)).1 = 41 then ((pv t N (po t N r) 5 (a + 1)).1 + 1, false, (pv t N (po t N r) 5 (a + 1)).2.2.1, (pv t N (po t N r) 5 (a + 1)).2.2.2) else ((pv t N (po t N r) 5 (a + 1)).1, true, [], fun _ => 0)) := by
      conv => lhs; unfold po
      simp only [if_pos hO, if_pos h40]
    rw [ep] at hK
    have lv := m_levels (dd := 2 + 6 * r) (by rw [show 2 + 6 * r + 2 = 4 + 6 * r by omega]; exact ih) (po_gp t N r)
    rw [h40]
    have d1 : ¬ (40 : Int32) = 33 := by decide
    have d2 : ¬ (40 : Int32) = 45 := by decide
    simp only [show nI 40 = 40 from rfl, d1, d2, z176_1, z176_4, z176_7, z176_8, z176_9, z176_10, z176_13, z176_14, z176_15, z176_17, z176_20, z176_21, z176_23, z176_26, z176_27, z176_29, z176_32, z176_33, z176_36, z176_38, z176_41, z176_42, z176_45, z176_46, z176_47, z176_48, z176_51, z176_52, z176_53, z176_56, z176_57, z176_58, z176_61, z176_62, z176_63, z176_66, z176_67, z176_69, z176_72, z176_73, z176_76, z176_79, z176_80, z176_83, z176_84, z176_85, z176_87, z176_90, z176_91, z176_93, z176_96, z176_99, z176_100, z176_103, z176_104, z176_105, z176_106, z176_109, z176_110, z176_111, z176_114, z176_115, z176_117, z176_120, z176_121, z176_124, z176_125, z176_127, z176_130, z176_131, z176_132, z176_135, z176_136, z176_139, z176_140, z176_143, z176_144, z176_145, z176_146, z176_149, z176_150, z176_151, z176_154, z176_155, z176_156, z176_159, z176_160, z176_161, z176_164, z176_165, z176_168, z176_169, z176_170, z176_171, z176_172, z176_173, z176_174, z176_178, z176_179, z176_182, z176_183, z176_186, z176_188, z176_191, z176_192, z176_195, z176_197, z176_200, z176_202, z176_203, z176_204, z176_205, z176_208, z176_209, z176_211, z176_212, z176_213, z176_216, z176_217, z176_218, z176_221, z176_222, z176_223, z176_226, z176_229, z176_231, z176_234, z176_235, z176_238, z176_241, z176_242, sm_cti, sm_ctr, sm_ctn, sm_nbi, Option.toList_some, Option.toList_none, List.cons_append, List.nil_append, ne_eq, reduceCtorEq, not_false_eq_true, Nat.reduceLeDiff, kc103, rc103, if_true, if_false, not_true_eq_false, not_false_eq_true, and_true, true_and, and_false, false_and, and_self, or_true, true_or, or_false, false_or, reduceIte, iff_self, Int32.add_zero, y_10, Classical.not_not]
    obtain ⟨g1, g2, g3⟩ := pv_gp t N (po_gp t N r) 5 (a + 1) (by omega)
    refine lv d n J _ _ (a + 1) tpA (by omega) a4 a6 a5 (fun I2 v m2 hv => ?_)
    rw [nm0] at hv
    cases hwr : (pv t N (po t N r) 5 (a + 1)).2.1 with
    | true =>
      rw [hwr] at m2
      rw [hwr, if_neg (fun z => by cases z.1)] at hK
      have wf := m2.2.2.2 rfl
      simp only [z176_1, z176_4, z176_7, z176_8, z176_9, z176_10, z176_13, z176_14, z176_15, z176_17, z176_20, z176_21, z176_23, z176_26, z176_27, z176_29, z176_32, z176_33, z176_36, z176_38, z176_41, z176_42, z176_45, z176_46, z176_47, z176_48, z176_51, z176_52, z176_53, z176_56, z176_57, z176_58, z176_61, z176_62, z176_63, z176_66, z176_67, z176_69, z176_72, z176_73, z176_76, z176_79, z176_80, z176_83, z176_84, z176_85, z176_87, z176_90, z176_91, z176_93, z176_96, z176_99, z176_100, z176_103, z176_104, z176_105, z176_106, z176_109, z176_110, z176_111, z176_114, z176_115, z176_117, z176_120, z176_121, z176_124, z176_125, z176_127, z176_130, z176_131, z176_132, z176_135, z176_136, z176_139, z176_140, z176_143, z176_144, z176_145, z176_146, z176_149, z176_150, z176_151, z176_154, z176_155, z176_156, z176_159, z176_160, z176_161, z176_164, z176_165, z176_168, z176_169, z176_170, z176_171, z176_172, z176_173, z176_174, z176_178, z176_179, z176_182, z176_183, z176_186, z176_188, z176_191, z176_192, z176_195, z176_197, z176_200, z176_202, z176_203, z176_204, z176_205, z176_208, z176_209, z176_211, z176_212, z176_213, z176_216, z176_217, z176_218, z176_221, z176_222, z176_223, z176_226, z176_229, z176_231, z176_234, z176_235, z176_238, z176_241, z176_242, sm_cti, sm_ctr, sm_ctn, sm_nbi, Option.toList_some, Option.toList_none, List.cons_append, List.nil_append, ne_eq, reduceCtorEq, not_false_eq_true, Nat.reduceLeDiff, rc103, m_takesF _ _ _ _ _ (show (pv t N (po t N r) 5 (a + 1)).1 < 2 ^ 31 by omega) wf, m_wrongF _ _ _ _ (show (pv t N (po t N r) 5 (a + 1)).1 < 2 ^ 31 by omega) wf, if_true, if_false, not_true_eq_false, not_false_eq_true, and_true, true_and, and_false, false_and, and_self, or_true, true_or, or_false, false_or, reduceIte, iff_self, Int32.add_zero, y_10, Classical.not_not]
      exact hK _ _ (mpo_tr m0 (mpo_wo m2)) (fun h => by cases h)
    | false =>
      rw [hwr] at m2
      obtain ⟨v1, v2⟩ := m2.2.2.1 rfl
      rw [hwr] at hv
      have tp2 := mpo_tp m2 tpA
      have tk := fun d K => m_takes tp2 d n J K (c := 41) (cc := 41) rfl (by decide) (by decide) g2 m2.2.1 v1
      simp only [z176_1, z176_4, z176_7, z176_8, z176_9, z176_10, z176_13, z176_14, z176_15, z176_17, z176_20, z176_21, z176_23, z176_26, z176_27, z176_29, z176_32, z176_33, z176_36, z176_38, z176_41, z176_42, z176_45, z176_46, z176_47, z176_48, z176_51, z176_52, z176_53, z176_56, z176_57, z176_58, z176_61, z176_62, z176_63, z176_66, z176_67, z176_69, z176_72, z176_73, z176_76, z176_79, z176_80, z176_83, z176_84, z176_85, z176_87, z176_90, z176_91, z176_93, z176_96, z176_99, z176_100, z176_103, z176_104, z176_105, z176_106, z176_109, z176_110, z176_111, z176_114, z176_115, z176_117, z176_120, z176_121, z176_124, z176_125, z176_127, z176_130, z176_131, z176_132, z176_135, z176_136, z176_139, z176_140, z176_143, z176_144, z176_145, z176_146, z176_149, z176_150, z176_151, z176_154, z176_155, z176_156, z176_159, z176_160, z176_161, z176_164, z176_165, z176_168, z176_169, z176_170, z176_171, z176_172, z176_173, z176_174, z176_178, z176_179, z176_182, z176_183, z176_186, z176_188, z176_191, z176_192, z176_195, z176_197, z176_200, z176_202, z176_203, z176_204, z176_205, z176_208, z176_209, z176_211, z176_212, z176_213, z176_216, z176_217, z176_218, z176_221, z176_222, z176_223, z176_226, z176_229, z176_231, z176_234, z176_235, z176_238, z176_241, z176_242, sm_cti, sm_ctr, sm_ctn, sm_nbi, Option.toList_some, Option.toList_none, List.cons_append, List.nil_append, ne_eq, reduceCtorEq, not_false_eq_true, Nat.reduceLeDiff, rc103, tk, if_true, if_false, not_true_eq_false, not_false_eq_true, and_true, true_and, and_false, false_and, and_self, or_true, true_or, or_false, false_or, reduceIte, iff_self, Int32.add_zero, y_10, Classical.not_not]
      by_cases hd : (pv t N (po t N r) 5 (a + 1)).1 < N ∧ t (pv t N (po t N r) 5 (a + 1)).1 = 41
      · rw [if_pos hd]
        rw [hwr, if_pos ⟨rfl, hd⟩] at hK
        have o5 : sm_uI I2 103 15 (nI ((pv t N (po t N r) 5 (a + 1)).1 + 1)) 103 18 = nI (6 - r) := by rw [uI_o _ _ (by omega), v2, a5]
        simp only [z176_1, z176_4, z176_7, z176_8, z176_9, z176_10, z176_13, z176_14, z176_15, z176_17, z176_20, z176_21, z176_23, z176_26, z176_27, z176_29, z176_32, z176_33, z176_36, z176_38, z176_41, z176_42, z176_45, z176_46, z176_47, z176_48, z176_51, z176_52, z176_53, z176_56, z176_57, z176_58, z176_61, z176_62, z176_63, z176_66, z176_67, z176_69, z176_72, z176_73, z176_76, z176_79, z176_80, z176_83, z176_84, z176_85, z176_87, z176_90, z176_91, z176_93, z176_96, z176_99, z176_100, z176_103, z176_104, z176_105, z176_106, z176_109, z176_110, z176_111, z176_114, z176_115, z176_117, z176_120, z176_121, z176_124, z176_125, z176_127, z176_130, z176_131, z176_132, z176_135, z176_136, z176_139, z176_140, z176_143, z176_144, z176_145, z176_146, z176_149, z176_150, z176_151, z176_154, z176_155, z176_156, z176_159, z176_160, z176_161, z176_164, z176_165, z176_168, z176_169, z176_170, z176_171, z176_172, z176_173, z176_174, z176_178, z176_179, z176_182, z176_183, z176_186, z176_188, z176_191, z176_192, z176_195, z176_197, z176_200, z176_202, z176_203, z176_204, z176_205, z176_208, z176_209, z176_211, z176_212, z176_213, z176_216, z176_217, z176_218, z176_221, z176_222, z176_223, z176_226, z176_229, z176_231, z176_234, z176_235, z176_238, z176_241, z176_242, sm_cti, sm_ctr, sm_ctn, sm_nbi, Option.toList_some, Option.toList_none, List.cons_append, List.nil_append, ne_eq, reduceCtorEq, not_false_eq_true, Nat.reduceLeDiff, kc103, o5, eo2, if_true, if_false, not_true_eq_false, not_false_eq_true, and_true, true_and, and_false, false_and, and_self, or_true, true_or, or_false, false_or, reduceIte, iff_self, Int32.add_zero, y_10, Classical.not_not]
        exact hK _ _ (mpo_tr m0 (mpo_open (mpo_tr m2 (mpo_at (a := (pv t N (po t N r) 5 (a + 1)).1 + 1) v1)) q1)) (fun _ => hv rfl)
      · rw [if_neg hd]
        rw [hwr, if_neg (fun z => hd z.2)] at hK
        simp only [z176_1, z176_4, z176_7, z176_8, z176_9, z176_10, z176_13, z176_14, z176_15, z176_17, z176_20, z176_21, z176_23, z176_26, z176_27, z176_29, z176_32, z176_33, z176_36, z176_38, z176_41, z176_42, z176_45, z176_46, z176_47, z176_48, z176_51, z176_52, z176_53, z176_56, z176_57, z176_58, z176_61, z176_62, z176_63, z176_66, z176_67, z176_69, z176_72, z176_73, z176_76, z176_79, z176_80, z176_83, z176_84, z176_85, z176_87, z176_90, z176_91, z176_93, z176_96, z176_99, z176_100, z176_103, z176_104, z176_105, z176_106, z176_109, z176_110, z176_111, z176_114, z176_115, z176_117, z176_120, z176_121, z176_124, z176_125, z176_127, z176_130, z176_131, z176_132, z176_135, z176_136, z176_139, z176_140, z176_143, z176_144, z176_145, z176_146, z176_149, z176_150, z176_151, z176_154, z176_155, z176_156, z176_159, z176_160, z176_161, z176_164, z176_165, z176_168, z176_169, z176_170, z176_171, z176_172, z176_173, z176_174, z176_178, z176_179, z176_182, z176_183, z176_186, z176_188, z176_191, z176_192, z176_195, z176_197, z176_200, z176_202, z176_203, z176_204, z176_205, z176_208, z176_209, z176_211, z176_212, z176_213, z176_216, z176_217, z176_218, z176_221, z176_222, z176_223, z176_226, z176_229, z176_231, z176_234, z176_235, z176_238, z176_241, z176_242, sm_cti, sm_ctr, sm_ctn, sm_nbi, Option.toList_some, Option.toList_none, List.cons_append, List.nil_append, ne_eq, reduceCtorEq, not_false_eq_true, Nat.reduceLeDiff, kc103, rc103, m_wrong _ _ _ _ v1, m2.2.1, if_true, if_false, not_true_eq_false, not_false_eq_true, and_true, true_and, and_false, false_and, and_self, or_true, true_or, or_false, false_or, reduceIte, iff_self, Int32.add_zero, y_10, Classical.not_not]
        exact hK _ _ (mpo_tr m0 (mpo_wo (mpo_tr m2 (mpo_wr m2.2.1)))) (fun h => by cases h)
  · have ep : po t N (r + 1) a = ((po t N r (a + 1)).1, (po t N r (a + 1)).2.1, (po t N r (a + 1)).2.2.1 ++ [if t a = 33 then 33 else 126], fun g => ch (t a) ((po t N r (a + 1)).2.2.2 g)) := by
      conv => lhs; unfold po
      simp only [if_pos hO, if_neg h40]
    rw [ep] at hK
    have hh2 : t a = 33 ∨ t a = 45 := by omega
    have goon : ∀ (K2 : Option Value → sm_H → Prop), (∀ (I2 : sm_I) (v : Int32), mpo (po t N r (a + 1)).1 (po t N r (a + 1)).2.1 (sm_uI (sm_uI I 103 15 (nI (a + 1))) 103 18 (nI (6 - r))) I2 → ((po t N r (a + 1)).2.1 = false → v = (po t N r (a + 1)).2.2.2 (I 112)) → K2 (some (.int v)) (sm_SH n, I2, J)) → sm_Ok (d + (2 + 6 * r) + 7) 176 0 [.ref 103, .null, .null, .null, .null] [] (sm_SH n, sm_uI (sm_uI I 103 15 (nI (a + 1))) 103 18 (nI (6 - r)), J) K2 := by
      intro K2 hk
      rw [show d + (2 + 6 * r) + 7 = d + 5 + (4 + 6 * r) by omega]
      refine ih (d + 5) n J K2 _ (a + 1) tpA (by omega) a4 a6 a5 (fun I2 v m2 hv => hk I2 v m2 ?_)
      rw [nm0] at hv
      exact hv
    have step : ∀ (I2 : sm_I) (u v : Int32), mpo (po t N r (a + 1)).1 (po t N r (a + 1)).2.1 (sm_uI (sm_uI I 103 15 (nI (a + 1))) 103 18 (nI (6 - r))) I2 → ((po t N r (a + 1)).2.1 = false → u = ch (t a) ((po t N r (a + 1)).2.2.2 (I 112))) → K (some (.int u)) (sm_SH n, sm_uI I2 103 18 (I2 103 18 - 1), J) := by
      intro I2 u v m2 hu
      cases hwr : (po t N r (a + 1)).2.1 with
      | true =>
        rw [hwr] at m2 hK
        refine hK _ _ ?_ (fun h => by cases h)
        have m3 := mpo_tr m0 (mpo_wo m2)
        exact ⟨fun x b hx => by rw [uI_o _ _ (by omega), m3.1 x b hx], by rw [uI_o _ _ (by omega), m3.2.1], (fun h => by cases h), fun _ => by rw [uI_o _ _ (by omega), m3.2.2.2 rfl]⟩
      | false =>
        rw [hwr] at m2 hK hu
        rw [(m2.2.2.1 rfl).2, a5, eo2]
        exact hK _ _ (mpo_tr m0 (mpo_open m2 q1)) (fun _ => hu rfl)
    rcases hh2 with h | h
    · rw [h] at step ⊢
      have d1 : ¬ (33 : Int32) = 40 := by decide
      have d2 : ¬ (33 : Int32) = 45 := by decide
      simp only [show nI 33 = 33 from rfl, d1, d2, z176_1, z176_4, z176_7, z176_8, z176_9, z176_10, z176_13, z176_14, z176_15, z176_17, z176_20, z176_21, z176_23, z176_26, z176_27, z176_29, z176_32, z176_33, z176_36, z176_38, z176_41, z176_42, z176_45, z176_46, z176_47, z176_48, z176_51, z176_52, z176_53, z176_56, z176_57, z176_58, z176_61, z176_62, z176_63, z176_66, z176_67, z176_69, z176_72, z176_73, z176_76, z176_79, z176_80, z176_83, z176_84, z176_85, z176_87, z176_90, z176_91, z176_93, z176_96, z176_99, z176_100, z176_103, z176_104, z176_105, z176_106, z176_109, z176_110, z176_111, z176_114, z176_115, z176_117, z176_120, z176_121, z176_124, z176_125, z176_127, z176_130, z176_131, z176_132, z176_135, z176_136, z176_139, z176_140, z176_143, z176_144, z176_145, z176_146, z176_149, z176_150, z176_151, z176_154, z176_155, z176_156, z176_159, z176_160, z176_161, z176_164, z176_165, z176_168, z176_169, z176_170, z176_171, z176_172, z176_173, z176_174, z176_178, z176_179, z176_182, z176_183, z176_186, z176_188, z176_191, z176_192, z176_195, z176_197, z176_200, z176_202, z176_203, z176_204, z176_205, z176_208, z176_209, z176_211, z176_212, z176_213, z176_216, z176_217, z176_218, z176_221, z176_222, z176_223, z176_226, z176_229, z176_231, z176_234, z176_235, z176_238, z176_241, z176_242, sm_cti, sm_ctr, sm_ctn, sm_nbi, Option.toList_some, Option.toList_none, List.cons_append, List.nil_append, ne_eq, reduceCtorEq, not_false_eq_true, Nat.reduceLeDiff, kc103, rc103, if_true, if_false, not_true_eq_false, not_false_eq_true, and_true, true_and, and_false, false_and, and_self, or_true, true_or, or_false, false_or, reduceIte, iff_self, Int32.add_zero, y_10, Classical.not_not]
      refine goon _ (fun I2 v m2 hv => ?_)
      simp only [d1, d2, z176_1, z176_4, z176_7, z176_8, z176_9, z176_10, z176_13, z176_14, z176_15, z176_17, z176_20, z176_21, z176_23, z176_26, z176_27, z176_29, z176_32, z176_33, z176_36, z176_38, z176_41, z176_42, z176_45, z176_46, z176_47, z176_48, z176_51, z176_52, z176_53, z176_56, z176_57, z176_58, z176_61, z176_62, z176_63, z176_66, z176_67, z176_69, z176_72, z176_73, z176_76, z176_79, z176_80, z176_83, z176_84, z176_85, z176_87, z176_90, z176_91, z176_93, z176_96, z176_99, z176_100, z176_103, z176_104, z176_105, z176_106, z176_109, z176_110, z176_111, z176_114, z176_115, z176_117, z176_120, z176_121, z176_124, z176_125, z176_127, z176_130, z176_131, z176_132, z176_135, z176_136, z176_139, z176_140, z176_143, z176_144, z176_145, z176_146, z176_149, z176_150, z176_151, z176_154, z176_155, z176_156, z176_159, z176_160, z176_161, z176_164, z176_165, z176_168, z176_169, z176_170, z176_171, z176_172, z176_173, z176_174, z176_178, z176_179, z176_182, z176_183, z176_186, z176_188, z176_191, z176_192, z176_195, z176_197, z176_200, z176_202, z176_203, z176_204, z176_205, z176_208, z176_209, z176_211, z176_212, z176_213, z176_216, z176_217, z176_218, z176_221, z176_222, z176_223, z176_226, z176_229, z176_231, z176_234, z176_235, z176_238, z176_241, z176_242, sm_cti, sm_ctr, sm_ctn, sm_nbi, Option.toList_some, Option.toList_none, List.cons_append, List.nil_append, ne_eq, reduceCtorEq, not_false_eq_true, Nat.reduceLeDiff, kc103, rc103, if_true, if_false, not_true_eq_false, not_false_eq_true, and_true, true_and, and_false, false_and, and_self, or_true, true_or, or_false, false_or, reduceIte, iff_self, Int32.add_zero, y_10, Classical.not_not]
      by_cases hv0 : v = 0
      · simp only [hv0, z176_1, z176_4, z176_7, z176_8, z176_9, z176_10, z176_13, z176_14, z176_15, z176_17, z176_20, z176_21, z176_23, z176_26, z176_27, z176_29, z176_32, z176_33, z176_36, z176_38, z176_41, z176_42, z176_45, z176_46, z176_47, z176_48, z176_51, z176_52, z176_53, z176_56, z176_57, z176_58, z176_61, z176_62, z176_63, z176_66, z176_67, z176_69, z176_72, z176_73, z176_76, z176_79, z176_80, z176_83, z176_84, z176_85, z176_87, z176_90, z176_91, z176_93, z176_96, z176_99, z176_100, z176_103, z176_104, z176_105, z176_106, z176_109, z176_110, z176_111, z176_114, z176_115, z176_117, z176_120, z176_121, z176_124, z176_125, z176_127, z176_130, z176_131, z176_132, z176_135, z176_136, z176_139, z176_140, z176_143, z176_144, z176_145, z176_146, z176_149, z176_150, z176_151, z176_154, z176_155, z176_156, z176_159, z176_160, z176_161, z176_164, z176_165, z176_168, z176_169, z176_170, z176_171, z176_172, z176_173, z176_174, z176_178, z176_179, z176_182, z176_183, z176_186, z176_188, z176_191, z176_192, z176_195, z176_197, z176_200, z176_202, z176_203, z176_204, z176_205, z176_208, z176_209, z176_211, z176_212, z176_213, z176_216, z176_217, z176_218, z176_221, z176_222, z176_223, z176_226, z176_229, z176_231, z176_234, z176_235, z176_238, z176_241, z176_242, sm_cti, sm_ctr, sm_ctn, sm_nbi, Option.toList_some, Option.toList_none, List.cons_append, List.nil_append, ne_eq, reduceCtorEq, not_false_eq_true, Nat.reduceLeDiff, if_true, if_false, not_true_eq_false, not_false_eq_true, and_true, true_and, and_false, false_and, and_self, or_true, true_or, or_false, false_or, reduceIte, iff_self, Int32.add_zero, y_10, Classical.not_not]
        exact step I2 1 v m2 (fun hw => by rw [← hv hw, hv0]; rfl)
      · simp only [hv0, z176_1, z176_4, z176_7, z176_8, z176_9, z176_10, z176_13, z176_14, z176_15, z176_17, z176_20, z176_21, z176_23, z176_26, z176_27, z176_29, z176_32, z176_33, z176_36, z176_38, z176_41, z176_42, z176_45, z176_46, z176_47, z176_48, z176_51, z176_52, z176_53, z176_56, z176_57, z176_58, z176_61, z176_62, z176_63, z176_66, z176_67, z176_69, z176_72, z176_73, z176_76, z176_79, z176_80, z176_83, z176_84, z176_85, z176_87, z176_90, z176_91, z176_93, z176_96, z176_99, z176_100, z176_103, z176_104, z176_105, z176_106, z176_109, z176_110, z176_111, z176_114, z176_115, z176_117, z176_120, z176_121, z176_124, z176_125, z176_127, z176_130, z176_131, z176_132, z176_135, z176_136, z176_139, z176_140, z176_143, z176_144, z176_145, z176_146, z176_149, z176_150, z176_151, z176_154, z176_155, z176_156, z176_159, z176_160, z176_161, z176_164, z176_165, z176_168, z176_169, z176_170, z176_171, z176_172, z176_173, z176_174, z176_178, z176_179, z176_182, z176_183, z176_186, z176_188, z176_191, z176_192, z176_195, z176_197, z176_200, z176_202, z176_203, z176_204, z176_205, z176_208, z176_209, z176_211, z176_212, z176_213, z176_216, z176_217, z176_218, z176_221, z176_222, z176_223, z176_226, z176_229, z176_231, z176_234, z176_235, z176_238, z176_241, z176_242, sm_cti, sm_ctr, sm_ctn, sm_nbi, Option.toList_some, Option.toList_none, List.cons_append, List.nil_append, ne_eq, reduceCtorEq, not_false_eq_true, Nat.reduceLeDiff, if_true, if_false, not_true_eq_false, not_false_eq_true, and_true, true_and, and_false, false_and, and_self, or_true, true_or, or_false, false_or, reduceIte, iff_self, Int32.add_zero, y_10, Classical.not_not]
        exact step I2 0 v m2 (fun hw => by rw [← hv hw]; unfold ch; rw [if_pos rfl, if_neg hv0])
    · rw [h] at step ⊢
      have d1 : ¬ (45 : Int32) = 40 := by decide
      have d2 : ¬ (45 : Int32) = 33 := by decide
      simp only [show nI 45 = 45 from rfl, d1, d2, z176_1, z176_4, z176_7, z176_8, z176_9, z176_10, z176_13, z176_14, z176_15, z176_17, z176_20, z176_21, z176_23, z176_26, z176_27, z176_29, z176_32, z176_33, z176_36, z176_38, z176_41, z176_42, z176_45, z176_46, z176_47, z176_48, z176_51, z176_52, z176_53, z176_56, z176_57, z176_58, z176_61, z176_62, z176_63, z176_66, z176_67, z176_69, z176_72, z176_73, z176_76, z176_79, z176_80, z176_83, z176_84, z176_85, z176_87, z176_90, z176_91, z176_93, z176_96, z176_99, z176_100, z176_103, z176_104, z176_105, z176_106, z176_109, z176_110, z176_111, z176_114, z176_115, z176_117, z176_120, z176_121, z176_124, z176_125, z176_127, z176_130, z176_131, z176_132, z176_135, z176_136, z176_139, z176_140, z176_143, z176_144, z176_145, z176_146, z176_149, z176_150, z176_151, z176_154, z176_155, z176_156, z176_159, z176_160, z176_161, z176_164, z176_165, z176_168, z176_169, z176_170, z176_171, z176_172, z176_173, z176_174, z176_178, z176_179, z176_182, z176_183, z176_186, z176_188, z176_191, z176_192, z176_195, z176_197, z176_200, z176_202, z176_203, z176_204, z176_205, z176_208, z176_209, z176_211, z176_212, z176_213, z176_216, z176_217, z176_218, z176_221, z176_222, z176_223, z176_226, z176_229, z176_231, z176_234, z176_235, z176_238, z176_241, z176_242, sm_cti, sm_ctr, sm_ctn, sm_nbi, Option.toList_some, Option.toList_none, List.cons_append, List.nil_append, ne_eq, reduceCtorEq, not_false_eq_true, Nat.reduceLeDiff, kc103, rc103, if_true, if_false, not_true_eq_false, not_false_eq_true, and_true, true_and, and_false, false_and, and_self, or_true, true_or, or_false, false_or, reduceIte, iff_self, Int32.add_zero, y_10, Classical.not_not]
      refine goon _ (fun I2 v m2 hv => ?_)
      simp only [d1, d2, z176_1, z176_4, z176_7, z176_8, z176_9, z176_10, z176_13, z176_14, z176_15, z176_17, z176_20, z176_21, z176_23, z176_26, z176_27, z176_29, z176_32, z176_33, z176_36, z176_38, z176_41, z176_42, z176_45, z176_46, z176_47, z176_48, z176_51, z176_52, z176_53, z176_56, z176_57, z176_58, z176_61, z176_62, z176_63, z176_66, z176_67, z176_69, z176_72, z176_73, z176_76, z176_79, z176_80, z176_83, z176_84, z176_85, z176_87, z176_90, z176_91, z176_93, z176_96, z176_99, z176_100, z176_103, z176_104, z176_105, z176_106, z176_109, z176_110, z176_111, z176_114, z176_115, z176_117, z176_120, z176_121, z176_124, z176_125, z176_127, z176_130, z176_131, z176_132, z176_135, z176_136, z176_139, z176_140, z176_143, z176_144, z176_145, z176_146, z176_149, z176_150, z176_151, z176_154, z176_155, z176_156, z176_159, z176_160, z176_161, z176_164, z176_165, z176_168, z176_169, z176_170, z176_171, z176_172, z176_173, z176_174, z176_178, z176_179, z176_182, z176_183, z176_186, z176_188, z176_191, z176_192, z176_195, z176_197, z176_200, z176_202, z176_203, z176_204, z176_205, z176_208, z176_209, z176_211, z176_212, z176_213, z176_216, z176_217, z176_218, z176_221, z176_222, z176_223, z176_226, z176_229, z176_231, z176_234, z176_235, z176_238, z176_241, z176_242, sm_cti, sm_ctr, sm_ctn, sm_nbi, Option.toList_some, Option.toList_none, List.cons_append, List.nil_append, ne_eq, reduceCtorEq, not_false_eq_true, Nat.reduceLeDiff, kc103, rc103, if_true, if_false, not_true_eq_false, not_false_eq_true, and_true, true_and, and_false, false_and, and_self, or_true, true_or, or_false, false_or, reduceIte, iff_self, Int32.add_zero, y_10, Classical.not_not]
      exact step I2 (-v) v m2 (fun hw => by rw [← hv hw]; unfold ch; rw [if_neg (by decide)])
theorem m_one : ∀ r, r ≤ 6 → mrd t N 176 (4 + 6 * r) [.ref 103, .null, .null, .null, .null] (6 - r) (po t N r)
  | 0, _ => by
    intro d n J K I a h1 h2 h3 h4 h5 hK
    by_cases hO : a < N ∧ isO (t a) = true
    · exact m_one_0 (d + 2) n J K I a h1 h2 h3 h4 h5 hO hK
    · exact m_one_pd 0 (d + 2) n J K I a h1 h2 h3 h4 hO hK
  | r + 1, hr => by
    intro d n J K I a h1 h2 h3 h4 h5 hK
    by_cases hO : a < N ∧ isO (t a) = true
    · exact m_one_s hr (m_one r (by omega)) d n J K I a h1 h2 h3 h4 h5 hO hK
    · rw [show d + (4 + 6 * (r + 1)) = d + (2 + 6 * (r + 1)) + 2 by omega]
      exact m_one_pd (r + 1) _ n J K I a h1 h2 h3 h4 hO hK
/-- an expression -/
theorem m_expr : mrd t N 170 45 [.ref 103, .null, .null] 0 (pe t N) := m_levels (dd := 38) (m_one 6 (by decide)) (po_gp t N 6)
end
