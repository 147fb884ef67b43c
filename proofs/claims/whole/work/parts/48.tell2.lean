/-! how the class works a law out: the whole -/
section
variable (t : Nat → Nat) (n : Nat)
def gts (m : Nat) (op : Nat → pR) : Prop := ∀ a, (op a).2.1 = false → ts (op a).2.2.1 m (op a).2.2.2
theorem pl_ts {l m : Nat} (hm : 1 ≤ m) {sub : Nat → pR} (hs : gts m sub) : ∀ (k : Nat) (r : pR), (r.2.1 = false → ts r.2.2.1 (m + 1) r.2.2.2) → (pl t n (sgs l) sub k r).2.1 = false → ts (pl t n (sgs l) sub k r).2.2.1 (m + 1) (pl t n (sgs l) sub k r).2.2.2
  | 0, r, h, hw => h hw
  | k + 1, r, h, hw => by
    unfold pl at hw ⊢
    by_cases hc : r.2.1 = false ∧ r.1 < n ∧ sgs l (t r.1) = true
    · rw [if_pos hc] at hw ⊢
      exact pl_ts hm hs k _ (fun hw2 => ts_bin (h hc.1) (hs _ hw2) hm hc.2.2) hw
    · rw [if_neg hc] at hw ⊢
      exact h hw
theorem pv_ts {m : Nat} (hm : 1 ≤ m) {op : Nat → pR} (ho : gts m op) : ∀ j, gts (m + j) (pv t n op j)
  | 0 => ho
  | j + 1 => fun a hw => by
    have ih := pv_ts hm ho j
    exact pl_ts t n (by omega) ih (mst (4 - j)) _ (fun hw2 => ts_mono (ih a hw2) (by omega)) hw
theorem pd_ts : gts 1 (pd t n) := by
  intro a hw
  unfold pd at hw ⊢
  by_cases h1 : a < n ∧ nmi (t a) < 6
  · rw [if_pos h1]
    exact ts_name h1.2
  · rw [if_neg h1] at hw ⊢
    by_cases h2 : (pn t n 4 a 0).1 = a
    · rw [if_pos h2] at hw
      cases hw
    · rw [if_neg h2]
      exact ts_num (pn_lt t n 4 a 0 (by decide) (by decide))
theorem po_ts (ht : ∀ a, a < n → t a < 256) : ∀ o, gts (1 + 5 * o) (po t n o)
  | 0 => fun a hw => by
    unfold po at hw ⊢
    by_cases h1 : a < n ∧ isO (t a) = true
    · simp only [if_pos h1] at hw
      cases hw
    · simp only [if_neg h1] at hw ⊢
      exact pd_ts t n a hw
  | o + 1 => fun a hw => by
    have ih := po_ts ht o
    unfold po at hw ⊢
    by_cases h1 : a < n ∧ isO (t a) = true
    · simp only [if_pos h1] at hw ⊢
      by_cases h2 : t a = 40
      · rw [if_pos h2] at hw ⊢
        by_cases h3 : (pv t n (po t n o) 5 (a + 1)).2.1 = false ∧ (pv t n (po t n o) 5 (a + 1)).1 < n ∧ t (pv t n (po t n o) 5 (a + 1)).1 = 41
        · rw [if_pos h3]
          exact ts_mono (pv_ts t n (by omega) ih 5 (a + 1) h3.1) (by omega)
        · rw [if_neg h3] at hw
          cases hw
      · rw [if_neg h2] at hw ⊢
        exact ts_mono (ts_un (ih (a + 1) hw) (by omega) (ht a h1.1)) (by omega)
    · simp only [if_neg h1] at hw ⊢
      exact ts_mono (pd_ts t n a hw) (by omega)
theorem pe_ts (ht : ∀ a, a < n → t a < 256) : gts 36 (pe t n) := fun a hw => ts_mono (pv_ts t n (by decide) (po_ts t n ht 6) 5 a hw) (by decide)
variable {t n}
/-- a line: it gives a value, or the next one is run -/
theorem tl_line (ht : ∀ a, a < n → t a < 256) (d N : Nat) (J : sm_J) (K : Option Value → sm_H → Prop) (I : sm_I) (a1 a2 a3 a4 a5 a6 : Int32) (x9 x10 : Value) (a w C : Nat) (hC : I 27 3 = nI C) (hC2 : C ≤ 256) (hw : (pi' t n a w).2.1 = false) (hk : w + (pi' t n a w).2.2.1.length ≤ C) (hcd : ∀ j, j < (pi' t n a w).2.2.1.length → I 28 (w + j) = (pi' t n a w).2.2.1.getD j 0)
    (hK1 : ∀ v, (pi' t n a w).2.2.2 (I 29) = some v → ∀ I', (∀ x b, ¬ x = 30 → I' x b = I x b) → K (some (.int v)) (sm_SH N, I', J))
    (hK2 : (pi' t n a w).2.2.2 (I 29) = none → ∀ (I' : sm_I) (y9 y10 : Int32), (∀ x b, ¬ x = 30 → I' x b = I x b) → sm_Ok (d + 1) 27 51 [.ref 27, .int a1, .int a2, .int a3, .int a4, .int a5, .int a6, .int 0, .int (nI (w + (pi' t n a w).2.2.1.length)), .int y9, .int y10] [] (sm_SH N, I', J) K) :
    sm_Ok (d + 1) 27 51 [.ref 27, .int a1, .int a2, .int a3, .int a4, .int a5, .int a6, .int 0, .int (nI w), x9, x10] [] (sm_SH N, I, J) K := by
  unfold pi' at hw hk hcd hK1 hK2
  by_cases h : (pe t n a).2.1 = false ∧ (pe t n a).1 < n ∧ t (pe t n a).1 = 63
  · simp only [if_pos h] at hw hk hcd hK1 hK2
    simp only [List.length_append, List.length_cons, List.length_nil] at hk hcd hK2
    rw [← nI_0]
    refine pe_ts t n ht a h.1 d N J K I a1 a2 a3 a4 a5 a6 x9 x10 0 w C hC hC2 (by omega) (fun j hj => by rw [hcd j (by omega), gD_l hj]) (by omega) (fun I1 y9 f1 f2 f3 => ?_)
    have s0 : I1 28 (w + (pe t n a).2.2.1.length) = 63 := by
      rw [f1 _ _ (by omega), hcd _ (by omega), gD_r (Nat.le_refl _), Nat.sub_self]
      rfl
    have s1 : I1 28 (w + (pe t n a).2.2.1.length + 1) = nI (w + (pe t n a).2.2.1.length + 2 + (pe t n ((pe t n a).1 + 1)).2.2.1.length + 1) := by
      rw [f1 _ _ (by omega), Nat.add_assoc, hcd _ (by omega), gD_r (by omega), Nat.add_sub_cancel_left]
      rfl
    have e1 : ¬ nI C ≤ nI (w + (pe t n a).2.2.1.length) := nI_ge (by omega) (by omega)
    have e1' : ¬ nI C ≤ nI (w + (pe t n a).2.2.1.length + 1) := nI_ge (by omega) (by omega)
    have hC1 : I1 27 3 = nI C := by rw [f1 _ _ (by omega), hC]
    have e11 : (1 : Int32) ≤ nI (0 + 1) := by decide
    have d1 : nI (0 + 1) + (-1) = 0 := by decide
    have i0 : sm_in 0 64 = true := by decide
    have c0 : (0 : Int32).toNatClampNeg = 0 := by decide
    have q1 : (63 : Int32) < 256 := by decide
    have q2 : ¬ (63 : Int32) = 59 := by decide
    have eM : nI (w + (pe t n a).2.2.1.length + 2 + (pe t n ((pe t n a).1 + 1)).2.2.1.length + 1) - 1 = nI (w + (pe t n a).2.2.1.length + 2 + (pe t n ((pe t n a).1 + 1)).2.2.1.length) := nI_pred _
    have eM2 : nI (w + (pe t n a).2.2.1.length) < nI (w + (pe t n a).2.2.1.length + 2 + (pe t n ((pe t n a).1 + 1)).2.2.1.length) := nI_lt (by omega) (by omega)
    rw [z27_51]
    simp only [z27_0, z27_1, z27_4, z27_5, z27_6, z27_7, z27_8, z27_11, z27_12, z27_13, z27_14, z27_15, z27_18, z27_19, z27_20, z27_21, z27_22, z27_25, z27_26, z27_28, z27_29, z27_30, z27_33, z27_34, z27_36, z27_37, z27_38, z27_41, z27_42, z27_44, z27_45, z27_46, z27_48, z27_49, z27_53, z27_54, z27_57, z27_60, z27_61, z27_64, z27_66, z27_67, z27_69, z27_71, z27_74, z27_77, z27_79, z27_80, z27_83, z27_84, z27_87, z27_88, z27_91, z27_93, z27_95, z27_98, z27_101, z27_103, z27_106, z27_107, z27_110, z27_111, z27_114, z27_116, z27_119, z27_120, z27_121, z27_124, z27_125, z27_126, z27_129, z27_132, z27_134, z27_135, z27_138, z27_139, z27_140, z27_142, z27_144, z27_147, z27_148, z27_151, z27_153, z27_154, z27_155, z27_156, z27_157, z27_159, z27_161, z27_164, z27_167, z27_169, z27_170, z27_171, z27_172, z27_175, z27_178, z27_179, z27_182, z27_184, z27_185, z27_186, z27_187, z27_190, z27_191, z27_194, z27_196, z27_197, z27_200, z27_202, z27_203, z27_206, z27_208, z27_209, z27_210, z27_213, z27_215, z27_217, z27_218, z27_219, z27_222, z27_224, z27_227, z27_229, z27_231, z27_234, z27_236, z27_238, z27_241, z27_242, z27_245, z27_247, z27_248, z27_249, z27_251, z27_252, z27_255, z27_257, z27_258, z27_259, z27_260, z27_263, z27_264, z27_267, z27_269, z27_270, z27_273, z27_276, z27_277, z27_280, z27_282, z27_283, z27_284, z27_286, z27_287, z27_290, z27_292, z27_293, z27_294, z27_295, z27_296, z27_299, z27_301, z27_302, z27_305, z27_306, z27_309, z27_312, z27_313, sm_cti, sm_ctr, sm_ctn, sm_nbi, Option.toList_some, Option.toList_none, List.cons_append, List.nil_append, ne_eq, reduceCtorEq, not_false_eq_true, Nat.reduceLeDiff, kc27, kc28, kc30, rf27_0, rf27_2, hC1, e1, e1', e11, d1, i0, c0, q1, q2, y_inN (show w + (pe t n a).2.2.1.length < 256 by omega) (by decide), nI_clamp (show w + (pe t n a).2.2.1.length < 2 ^ 31 by omega), y_inN (show w + (pe t n a).2.2.1.length + 1 < 256 by omega) (by decide), nI_clamp (show w + (pe t n a).2.2.1.length + 1 < 2 ^ 31 by omega), s0, s1, f3, eM, eM2, nI_1, if_true, if_false, not_true_eq_false, not_false_eq_true, and_true, true_and, and_false, false_and, and_self, or_true, true_or, or_false, false_or, reduceIte, iff_self, Int32.add_zero, y_10, Classical.not_not]
    by_cases hv : (pe t n a).2.2.2 (I 29) = 0
    · simp only [hv, z27_0, z27_1, z27_4, z27_5, z27_6, z27_7, z27_8, z27_11, z27_12, z27_13, z27_14, z27_15, z27_18, z27_19, z27_20, z27_21, z27_22, z27_25, z27_26, z27_28, z27_29, z27_30, z27_33, z27_34, z27_36, z27_37, z27_38, z27_41, z27_42, z27_44, z27_45, z27_46, z27_48, z27_49, z27_53, z27_54, z27_57, z27_60, z27_61, z27_64, z27_66, z27_67, z27_69, z27_71, z27_74, z27_77, z27_79, z27_80, z27_83, z27_84, z27_87, z27_88, z27_91, z27_93, z27_95, z27_98, z27_101, z27_103, z27_106, z27_107, z27_110, z27_111, z27_114, z27_116, z27_119, z27_120, z27_121, z27_124, z27_125, z27_126, z27_129, z27_132, z27_134, z27_135, z27_138, z27_139, z27_140, z27_142, z27_144, z27_147, z27_148, z27_151, z27_153, z27_154, z27_155, z27_156, z27_157, z27_159, z27_161, z27_164, z27_167, z27_169, z27_170, z27_171, z27_172, z27_175, z27_178, z27_179, z27_182, z27_184, z27_185, z27_186, z27_187, z27_190, z27_191, z27_194, z27_196, z27_197, z27_200, z27_202, z27_203, z27_206, z27_208, z27_209, z27_210, z27_213, z27_215, z27_217, z27_218, z27_219, z27_222, z27_224, z27_227, z27_229, z27_231, z27_234, z27_236, z27_238, z27_241, z27_242, z27_245, z27_247, z27_248, z27_249, z27_251, z27_252, z27_255, z27_257, z27_258, z27_259, z27_260, z27_263, z27_264, z27_267, z27_269, z27_270, z27_273, z27_276, z27_277, z27_280, z27_282, z27_283, z27_284, z27_286, z27_287, z27_290, z27_292, z27_293, z27_294, z27_295, z27_296, z27_299, z27_301, z27_302, z27_305, z27_306, z27_309, z27_312, z27_313, sm_cti, sm_ctr, sm_ctn, sm_nbi, Option.toList_some, Option.toList_none, List.cons_append, List.nil_append, ne_eq, reduceCtorEq, not_false_eq_true, Nat.reduceLeDiff, eM2, nI_1, if_true, if_false, not_true_eq_false, not_false_eq_true, and_true, true_and, and_false, false_and, and_self, or_true, true_or, or_false, false_or, reduceIte, iff_self, Int32.add_zero, y_10, Classical.not_not]
      have fin := hK2 (by rw [if_pos hv]) I1 63 (nI (w + (pe t n a).2.2.1.length + 2 + (pe t n ((pe t n a).1 + 1)).2.2.1.length + 1)) f1
      rw [show w + ((pe t n a).2.2.1.length + ((pe t n ((pe t n a).1 + 1)).2.2.1.length + (0 + 1) + 1 + 1)) = w + (pe t n a).2.2.1.length + 2 + (pe t n ((pe t n a).1 + 1)).2.2.1.length + 1 by omega] at fin
      exact fin
    · simp only [hv, z27_0, z27_1, z27_4, z27_5, z27_6, z27_7, z27_8, z27_11, z27_12, z27_13, z27_14, z27_15, z27_18, z27_19, z27_20, z27_21, z27_22, z27_25, z27_26, z27_28, z27_29, z27_30, z27_33, z27_34, z27_36, z27_37, z27_38, z27_41, z27_42, z27_44, z27_45, z27_46, z27_48, z27_49, z27_53, z27_54, z27_57, z27_60, z27_61, z27_64, z27_66, z27_67, z27_69, z27_71, z27_74, z27_77, z27_79, z27_80, z27_83, z27_84, z27_87, z27_88, z27_91, z27_93, z27_95, z27_98, z27_101, z27_103, z27_106, z27_107, z27_110, z27_111, z27_114, z27_116, z27_119, z27_120, z27_121, z27_124, z27_125, z27_126, z27_129, z27_132, z27_134, z27_135, z27_138, z27_139, z27_140, z27_142, z27_144, z27_147, z27_148, z27_151, z27_153, z27_154, z27_155, z27_156, z27_157, z27_159, z27_161, z27_164, z27_167, z27_169, z27_170, z27_171, z27_172, z27_175, z27_178, z27_179, z27_182, z27_184, z27_185, z27_186, z27_187, z27_190, z27_191, z27_194, z27_196, z27_197, z27_200, z27_202, z27_203, z27_206, z27_208, z27_209, z27_210, z27_213, z27_215, z27_217, z27_218, z27_219, z27_222, z27_224, z27_227, z27_229, z27_231, z27_234, z27_236, z27_238, z27_241, z27_242, z27_245, z27_247, z27_248, z27_249, z27_251, z27_252, z27_255, z27_257, z27_258, z27_259, z27_260, z27_263, z27_264, z27_267, z27_269, z27_270, z27_273, z27_276, z27_277, z27_280, z27_282, z27_283, z27_284, z27_286, z27_287, z27_290, z27_292, z27_293, z27_294, z27_295, z27_296, z27_299, z27_301, z27_302, z27_305, z27_306, z27_309, z27_312, z27_313, sm_cti, sm_ctr, sm_ctn, sm_nbi, Option.toList_some, Option.toList_none, List.cons_append, List.nil_append, ne_eq, reduceCtorEq, not_false_eq_true, Nat.reduceLeDiff, nI_1, if_true, if_false, not_true_eq_false, not_false_eq_true, and_true, true_and, and_false, false_and, and_self, or_true, true_or, or_false, false_or, reduceIte, iff_self, Int32.add_zero, y_10, Classical.not_not]
      rw [← nI_0]
      refine pe_ts t n ht ((pe t n a).1 + 1) hw d N J K I1 a1 a2 a3 a4 a5 a6 _ _ 0 (w + (pe t n a).2.2.1.length + 1 + 1) C hC1 hC2 (by omega) (fun j hj => ?_) (by omega) (fun I2 y9 g1 g2 g3 => ?_)
      · rw [f1 _ _ (by omega), show w + (pe t n a).2.2.1.length + 1 + 1 + j = w + ((pe t n a).2.2.1.length + (j + 2)) by omega, hcd _ (by omega), gD_r (by omega), Nat.add_sub_cancel_left]
        show ((pe t n ((pe t n a).1 + 1)).2.2.1 ++ [59]).getD j 0 = _
        rw [gD_l hj]
      · have s2 : I2 28 (w + (pe t n a).2.2.1.length + 1 + 1 + (pe t n ((pe t n a).1 + 1)).2.2.1.length) = 59 := by
          rw [g1 _ _ (by omega), f1 _ _ (by omega), show w + (pe t n a).2.2.1.length + 1 + 1 + (pe t n ((pe t n a).1 + 1)).2.2.1.length = w + ((pe t n a).2.2.1.length + ((pe t n ((pe t n a).1 + 1)).2.2.1.length + 2)) by omega, hcd _ (by omega), gD_r (by omega), Nat.add_sub_cancel_left]
          show ((pe t n ((pe t n a).1 + 1)).2.2.1 ++ [59]).getD (pe t n ((pe t n a).1 + 1)).2.2.1.length 0 = _
          rw [gD_r (Nat.le_refl _), Nat.sub_self]
          rfl
        have hC3 : I2 27 3 = nI C := by rw [g1 _ _ (by omega), hC1]
        have e4 : ¬ nI C ≤ nI (w + (pe t n a).2.2.1.length + 1 + 1 + (pe t n ((pe t n a).1 + 1)).2.2.1.length) := nI_ge (by omega) (by omega)
        have q3 : (59 : Int32) < 256 := by decide
        have g29 : I1 29 = I 29 := funext (fun b => f1 29 b (by omega))
        rw [g29] at g3
        have d2 : nI (0 + 1) - 1 = 0 := by decide
        rw [z27_51]
        simp only [z27_0, z27_1, z27_4, z27_5, z27_6, z27_7, z27_8, z27_11, z27_12, z27_13, z27_14, z27_15, z27_18, z27_19, z27_20, z27_21, z27_22, z27_25, z27_26, z27_28, z27_29, z27_30, z27_33, z27_34, z27_36, z27_37, z27_38, z27_41, z27_42, z27_44, z27_45, z27_46, z27_48, z27_49, z27_53, z27_54, z27_57, z27_60, z27_61, z27_64, z27_66, z27_67, z27_69, z27_71, z27_74, z27_77, z27_79, z27_80, z27_83, z27_84, z27_87, z27_88, z27_91, z27_93, z27_95, z27_98, z27_101, z27_103, z27_106, z27_107, z27_110, z27_111, z27_114, z27_116, z27_119, z27_120, z27_121, z27_124, z27_125, z27_126, z27_129, z27_132, z27_134, z27_135, z27_138, z27_139, z27_140, z27_142, z27_144, z27_147, z27_148, z27_151, z27_153, z27_154, z27_155, z27_156, z27_157, z27_159, z27_161, z27_164, z27_167, z27_169, z27_170, z27_171, z27_172, z27_175, z27_178, z27_179, z27_182, z27_184, z27_185, z27_186, z27_187, z27_190, z27_191, z27_194, z27_196, z27_197, z27_200, z27_202, z27_203, z27_206, z27_208, z27_209, z27_210, z27_213, z27_215, z27_217, z27_218, z27_219, z27_222, z27_224, z27_227, z27_229, z27_231, z27_234, z27_236, z27_238, z27_241, z27_242, z27_245, z27_247, z27_248, z27_249, z27_251, z27_252, z27_255, z27_257, z27_258, z27_259, z27_260, z27_263, z27_264, z27_267, z27_269, z27_270, z27_273, z27_276, z27_277, z27_280, z27_282, z27_283, z27_284, z27_286, z27_287, z27_290, z27_292, z27_293, z27_294, z27_295, z27_296, z27_299, z27_301, z27_302, z27_305, z27_306, z27_309, z27_312, z27_313, sm_cti, sm_ctr, sm_ctn, sm_nbi, Option.toList_some, Option.toList_none, List.cons_append, List.nil_append, ne_eq, reduceCtorEq, not_false_eq_true, Nat.reduceLeDiff, kc27, kc28, kc30, rf27_0, rf27_2, hC3, e4, e11, d2, i0, c0, q3, y_inN (show w + (pe t n a).2.2.1.length + 1 + 1 + (pe t n ((pe t n a).1 + 1)).2.2.1.length < 256 by omega) (by decide), nI_clamp (show w + (pe t n a).2.2.1.length + 1 + 1 + (pe t n ((pe t n a).1 + 1)).2.2.1.length < 2 ^ 31 by omega), s2, g3, if_true, if_false, not_true_eq_false, not_false_eq_true, and_true, true_and, and_false, false_and, and_self, or_true, true_or, or_false, false_or, reduceIte, iff_self, Int32.add_zero, y_10, Classical.not_not]
        exact hK1 _ (by rw [if_neg hv]) I2 (fun x b hx => by rw [g1 x b hx, f1 x b hx])
  · simp only [if_neg h] at hw hk hcd hK1 hK2
    simp only [List.length_append, List.length_cons, List.length_nil] at hk hcd hK2
    rw [← nI_0]
    refine pe_ts t n ht a hw d N J K I a1 a2 a3 a4 a5 a6 x9 x10 0 w C hC hC2 (by omega) (fun j hj => by rw [hcd j (by omega), gD_l hj]) (by omega) (fun I1 y9 f1 f2 f3 => ?_)
    have s0 : I1 28 (w + (pe t n a).2.2.1.length) = 59 := by
      rw [f1 _ _ (by omega), hcd _ (by omega), gD_r (Nat.le_refl _), Nat.sub_self]
      rfl
    have hC3 : I1 27 3 = nI C := by rw [f1 _ _ (by omega), hC]
    have e4 : ¬ nI C ≤ nI (w + (pe t n a).2.2.1.length) := nI_ge (by omega) (by omega)
    have q3 : (59 : Int32) < 256 := by decide
    have e11 : (1 : Int32) ≤ nI (0 + 1) := by decide
    have i0 : sm_in 0 64 = true := by decide
    have c0 : (0 : Int32).toNatClampNeg = 0 := by decide
    have d2 : nI (0 + 1) - 1 = 0 := by decide
    rw [z27_51]
    simp only [z27_0, z27_1, z27_4, z27_5, z27_6, z27_7, z27_8, z27_11, z27_12, z27_13, z27_14, z27_15, z27_18, z27_19, z27_20, z27_21, z27_22, z27_25, z27_26, z27_28, z27_29, z27_30, z27_33, z27_34, z27_36, z27_37, z27_38, z27_41, z27_42, z27_44, z27_45, z27_46, z27_48, z27_49, z27_53, z27_54, z27_57, z27_60, z27_61, z27_64, z27_66, z27_67, z27_69, z27_71, z27_74, z27_77, z27_79, z27_80, z27_83, z27_84, z27_87, z27_88, z27_91, z27_93, z27_95, z27_98, z27_101, z27_103, z27_106, z27_107, z27_110, z27_111, z27_114, z27_116, z27_119, z27_120, z27_121, z27_124, z27_125, z27_126, z27_129, z27_132, z27_134, z27_135, z27_138, z27_139, z27_140, z27_142, z27_144, z27_147, z27_148, z27_151, z27_153, z27_154, z27_155, z27_156, z27_157, z27_159, z27_161, z27_164, z27_167, z27_169, z27_170, z27_171, z27_172, z27_175, z27_178, z27_179, z27_182, z27_184, z27_185, z27_186, z27_187, z27_190, z27_191, z27_194, z27_196, z27_197, z27_200, z27_202, z27_203, z27_206, z27_208, z27_209, z27_210, z27_213, z27_215, z27_217, z27_218, z27_219, z27_222, z27_224, z27_227, z27_229, z27_231, z27_234, z27_236, z27_238, z27_241, z27_242, z27_245, z27_247, z27_248, z27_249, z27_251, z27_252, z27_255, z27_257, z27_258, z27_259, z27_260, z27_263, z27_264, z27_267, z27_269, z27_270, z27_273, z27_276, z27_277, z27_280, z27_282, z27_283, z27_284, z27_286, z27_287, z27_290, z27_292, z27_293, z27_294, z27_295, z27_296, z27_299, z27_301, z27_302, z27_305, z27_306, z27_309, z27_312, z27_313, sm_cti, sm_ctr, sm_ctn, sm_nbi, Option.toList_some, Option.toList_none, List.cons_append, List.nil_append, ne_eq, reduceCtorEq, not_false_eq_true, Nat.reduceLeDiff, kc27, kc28, kc30, rf27_0, rf27_2, hC3, e4, e11, d2, i0, c0, q3, y_inN (show w + (pe t n a).2.2.1.length < 256 by omega) (by decide), nI_clamp (show w + (pe t n a).2.2.1.length < 2 ^ 31 by omega), s0, f3, if_true, if_false, not_true_eq_false, not_false_eq_true, and_true, true_and, and_false, false_and, and_self, or_true, true_or, or_false, false_or, reduceIte, iff_self, Int32.add_zero, y_10, Classical.not_not]
    exact hK1 _ rfl I1 f1
theorem px_some {g : pG} {v : Int32} : ∀ (k : Nat) (r : pL), r.2.2.2 g = some v → (px t n k r).2.2.2 g = some v
  | 0, r, h => h
  | k + 1, r, h => by
    unfold px
    by_cases hc : r.2.1 = false ∧ r.1 < n ∧ t r.1 = 59
    · rw [if_pos hc]
      exact px_some k _ (by simp only [h, Option.some_or])
    · rw [if_neg hc]
      exact h
theorem px_pre : ∀ (k : Nat) (r : pL), ∃ rest, (px t n k r).2.2.1 = r.2.2.1 ++ rest
  | 0, r => ⟨[], (List.append_nil _).symm⟩
  | k + 1, r => by
    unfold px
    by_cases hc : r.2.1 = false ∧ r.1 < n ∧ t r.1 = 59
    · rw [if_pos hc]
      obtain ⟨rest, hr⟩ := px_pre k ((pi' t n (r.1 + 1) r.2.2.1.length).1, (pi' t n (r.1 + 1) r.2.2.1.length).2.1, r.2.2.1 ++ (pi' t n (r.1 + 1) r.2.2.1.length).2.2.1, fun g => (r.2.2.2 g).or ((pi' t n (r.1 + 1) r.2.2.1.length).2.2.2 g))
      exact ⟨_, by rw [hr, List.append_assoc]⟩
    · rw [if_neg hc]
      exact ⟨[], (List.append_nil _).symm⟩
theorem px_wr : ∀ (k : Nat) (r : pL), (px t n k r).2.1 = false → r.2.1 = false
  | 0, r, h => h
  | k + 1, r, h => by
    unfold px at h
    by_cases hc : r.2.1 = false ∧ r.1 < n ∧ t r.1 = 59
    · exact hc.1
    · rw [if_neg hc] at h
      exact h
theorem tl_lp (ht : ∀ a, a < n → t a < 256) (d N : Nat) (J : sm_J) (K : Option Value → sm_H → Prop) (a1 a2 a3 a4 a5 a6 : Int32) (C : Nat) (hC2 : C ≤ 256) : ∀ (k : Nat) (r : pL) (I : sm_I) (x9 x10 : Value), I 27 3 = nI C → (px t n k r).2.1 = false → (px t n k r).2.2.1.length = C → (∀ j, j < C → I 28 j = (px t n k r).2.2.1.getD j 0) → r.2.2.2 (I 29) = none →
    (∀ I', (∀ x b, ¬ x = 30 → I' x b = I x b) → K (some (.int (((px t n k r).2.2.2 (I 29)).getD 0))) (sm_SH N, I', J)) →
    sm_Ok (d + 1) 27 51 [.ref 27, .int a1, .int a2, .int a3, .int a4, .int a5, .int a6, .int 0, .int (nI r.2.2.1.length), x9, x10] [] (sm_SH N, I, J) K
  | 0, r, I, x9, x10, hC, hw, hl, hcd, hn, hK => by
    have hl' : r.2.2.1.length = C := hl
    rw [z27_51]
    simp only [z27_0, z27_1, z27_4, z27_5, z27_6, z27_7, z27_8, z27_11, z27_12, z27_13, z27_14, z27_15, z27_18, z27_19, z27_20, z27_21, z27_22, z27_25, z27_26, z27_28, z27_29, z27_30, z27_33, z27_34, z27_36, z27_37, z27_38, z27_41, z27_42, z27_44, z27_45, z27_46, z27_48, z27_49, z27_53, z27_54, z27_57, z27_60, z27_61, z27_64, z27_66, z27_67, z27_69, z27_71, z27_74, z27_77, z27_79, z27_80, z27_83, z27_84, z27_87, z27_88, z27_91, z27_93, z27_95, z27_98, z27_101, z27_103, z27_106, z27_107, z27_110, z27_111, z27_114, z27_116, z27_119, z27_120, z27_121, z27_124, z27_125, z27_126, z27_129, z27_132, z27_134, z27_135, z27_138, z27_139, z27_140, z27_142, z27_144, z27_147, z27_148, z27_151, z27_153, z27_154, z27_155, z27_156, z27_157, z27_159, z27_161, z27_164, z27_167, z27_169, z27_170, z27_171, z27_172, z27_175, z27_178, z27_179, z27_182, z27_184, z27_185, z27_186, z27_187, z27_190, z27_191, z27_194, z27_196, z27_197, z27_200, z27_202, z27_203, z27_206, z27_208, z27_209, z27_210, z27_213, z27_215, z27_217, z27_218, z27_219, z27_222, z27_224, z27_227, z27_229, z27_231, z27_234, z27_236, z27_238, z27_241, z27_242, z27_245, z27_247, z27_248, z27_249, z27_251, z27_252, z27_255, z27_257, z27_258, z27_259, z27_260, z27_263, z27_264, z27_267, z27_269, z27_270, z27_273, z27_276, z27_277, z27_280, z27_282, z27_283, z27_284, z27_286, z27_287, z27_290, z27_292, z27_293, z27_294, z27_295, z27_296, z27_299, z27_301, z27_302, z27_305, z27_306, z27_309, z27_312, z27_313, sm_cti, sm_ctr, sm_ctn, sm_nbi, Option.toList_some, Option.toList_none, List.cons_append, List.nil_append, ne_eq, reduceCtorEq, not_false_eq_true, Nat.reduceLeDiff, kc27, hC, hl', Int32.le_refl, if_true, if_false, not_true_eq_false, not_false_eq_true, and_true, true_and, and_false, false_and, and_self, or_true, true_or, or_false, false_or, reduceIte, iff_self, Int32.add_zero, y_10, Classical.not_not]
    have := hK I (fun x b _ => rfl)
    simp only [px, hn, Option.getD_none] at this
    exact this
  | k + 1, r, I, x9, x10, hC, hw, hl, hcd, hn, hK => by
    by_cases hc : r.2.1 = false ∧ r.1 < n ∧ t r.1 = 59
    · have hp : px t n (k + 1) r = px t n k ((pi' t n (r.1 + 1) r.2.2.1.length).1, (pi' t n (r.1 + 1) r.2.2.1.length).2.1, r.2.2.1 ++ (pi' t n (r.1 + 1) r.2.2.1.length).2.2.1, fun g => (r.2.2.2 g).or ((pi' t n (r.1 + 1) r.2.2.1.length).2.2.2 g)) := by
        rw [px, if_pos hc]
      rw [hp] at hw hl hcd hK
      obtain ⟨rest, hr⟩ := px_pre (t := t) (n := n) k ((pi' t n (r.1 + 1) r.2.2.1.length).1, (pi' t n (r.1 + 1) r.2.2.1.length).2.1, r.2.2.1 ++ (pi' t n (r.1 + 1) r.2.2.1.length).2.2.1, fun g => (r.2.2.2 g).or ((pi' t n (r.1 + 1) r.2.2.1.length).2.2.2 g))
      have hl2 : C = r.2.2.1.length + (pi' t n (r.1 + 1) r.2.2.1.length).2.2.1.length + rest.length := by rw [← hl, hr, List.length_append, List.length_append]
      refine tl_line ht d N J K I a1 a2 a3 a4 a5 a6 x9 x10 (r.1 + 1) r.2.2.1.length C hC hC2 (by have := px_wr _ _ hw; exact this) (by omega) (fun j hj => ?_) (fun v hv I' f => ?_) (fun hv I' y9 y10 f => ?_)
      · rw [hcd _ (by omega), hr, List.append_assoc, gD_r (by omega), Nat.add_sub_cancel_left, gD_l hj]
      · have := hK I' f
        rw [px_some (v := v) k _ (by simp only [hn, Option.none_or, hv])] at this
        exact this
      · have ih := tl_lp ht d N J K a1 a2 a3 a4 a5 a6 C hC2 k ((pi' t n (r.1 + 1) r.2.2.1.length).1, (pi' t n (r.1 + 1) r.2.2.1.length).2.1, r.2.2.1 ++ (pi' t n (r.1 + 1) r.2.2.1.length).2.2.1, fun g => (r.2.2.2 g).or ((pi' t n (r.1 + 1) r.2.2.1.length).2.2.2 g)) I' (.int y9) (.int y10) (by rw [f _ _ (by omega), hC]) hw hl (fun j hj => by rw [f _ _ (by omega), hcd j hj])
        have g29 : I' 29 = I 29 := funext (fun b => f 29 b (by omega))
        rw [g29] at ih
        have := ih (by simp only [hn, hv, Option.none_or]) (fun I2 f2 => hK I2 (fun x b hx => by rw [f2 x b hx, f x b hx]))
        simp only [List.length_append] at this
        exact this
    · have hp : px t n (k + 1) r = r := by rw [px, if_neg hc]
      rw [hp] at hl hK
      rw [z27_51]
      simp only [z27_0, z27_1, z27_4, z27_5, z27_6, z27_7, z27_8, z27_11, z27_12, z27_13, z27_14, z27_15, z27_18, z27_19, z27_20, z27_21, z27_22, z27_25, z27_26, z27_28, z27_29, z27_30, z27_33, z27_34, z27_36, z27_37, z27_38, z27_41, z27_42, z27_44, z27_45, z27_46, z27_48, z27_49, z27_53, z27_54, z27_57, z27_60, z27_61, z27_64, z27_66, z27_67, z27_69, z27_71, z27_74, z27_77, z27_79, z27_80, z27_83, z27_84, z27_87, z27_88, z27_91, z27_93, z27_95, z27_98, z27_101, z27_103, z27_106, z27_107, z27_110, z27_111, z27_114, z27_116, z27_119, z27_120, z27_121, z27_124, z27_125, z27_126, z27_129, z27_132, z27_134, z27_135, z27_138, z27_139, z27_140, z27_142, z27_144, z27_147, z27_148, z27_151, z27_153, z27_154, z27_155, z27_156, z27_157, z27_159, z27_161, z27_164, z27_167, z27_169, z27_170, z27_171, z27_172, z27_175, z27_178, z27_179, z27_182, z27_184, z27_185, z27_186, z27_187, z27_190, z27_191, z27_194, z27_196, z27_197, z27_200, z27_202, z27_203, z27_206, z27_208, z27_209, z27_210, z27_213, z27_215, z27_217, z27_218, z27_219, z27_222, z27_224, z27_227, z27_229, z27_231, z27_234, z27_236, z27_238, z27_241, z27_242, z27_245, z27_247, z27_248, z27_249, z27_251, z27_252, z27_255, z27_257, z27_258, z27_259, z27_260, z27_263, z27_264, z27_267, z27_269, z27_270, z27_273, z27_276, z27_277, z27_280, z27_282, z27_283, z27_284, z27_286, z27_287, z27_290, z27_292, z27_293, z27_294, z27_295, z27_296, z27_299, z27_301, z27_302, z27_305, z27_306, z27_309, z27_312, z27_313, sm_cti, sm_ctr, sm_ctn, sm_nbi, Option.toList_some, Option.toList_none, List.cons_append, List.nil_append, ne_eq, reduceCtorEq, not_false_eq_true, Nat.reduceLeDiff, kc27, hC, hl, Int32.le_refl, if_true, if_false, not_true_eq_false, not_false_eq_true, and_true, true_and, and_false, false_and, and_self, or_true, true_or, or_false, false_or, reduceIte, iff_self, Int32.add_zero, y_10, Classical.not_not]
      have := hK I (fun x b _ => rfl)
      simp only [hn, Option.getD_none] at this
      exact this
/-- the names' values -/
def gv (a1 a2 a3 a4 a5 a6 : Int32) : pG := fun i => if i = 0 then a1 else if i = 1 then a2 else if i = 2 then a3 else if i = 3 then a4 else if i = 4 then a5 else a6
/-- the law holds a text's steps -/
def clw (t : Nat → Nat) (n : Nat) (I : sm_I) : Prop := n ≤ 120 ∧ (∀ j, j < n → t j < 256) ∧ (pt t n).2.1 = false ∧ (pt t n).1 = n ∧ I 27 3 = nI (pt t n).2.2.1.length ∧ ∀ j, j < (pt t n).2.2.1.length → I 28 j = (pt t n).2.2.1.getD j 0
def lv (t : Nat → Nat) (n : Nat) (g : pG) : Int32 := ((pt t n).2.2.2 g).getD 0
end
