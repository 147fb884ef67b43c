/-! a law's value hangs on the six names alone; tell -/
section
variable (t : Nat → Nat) (n : Nat)
def cgr (op : Nat → pR) : Prop := ∀ (a : Nat) (g g' : pG), (∀ i, i < 6 → g i = g' i) → (op a).2.2.2 g = (op a).2.2.2 g'
theorem pl_cg {sg : Nat → Bool} {sub : Nat → pR} (hs : cgr sub) {g g' : pG} (h : ∀ i, i < 6 → g i = g' i) : ∀ (k : Nat) (r : pR), r.2.2.2 g = r.2.2.2 g' → (pl t n sg sub k r).2.2.2 g = (pl t n sg sub k r).2.2.2 g'
  | 0, r, hr => hr
  | k + 1, r, hr => by
    unfold pl
    by_cases hc : r.2.1 = false ∧ r.1 < n ∧ sg (t r.1) = true
    · rw [if_pos hc]
      exact pl_cg hs h k _ (by dsimp only; rw [hr, hs _ g g' h])
    · rw [if_neg hc]
      exact hr
theorem pv_cg {op : Nat → pR} (ho : cgr op) : ∀ j, cgr (pv t n op j)
  | 0 => ho
  | j + 1 => fun a g g' h => pl_cg t n (pv_cg ho j) h (mst (4 - j)) _ (pv_cg ho j a g g' h)
theorem pd_cg : cgr (pd t n) := by
  intro a g g' h
  unfold pd
  by_cases h1 : a < n ∧ nmi (t a) < 6
  · rw [if_pos h1]
    exact h _ h1.2
  · rw [if_neg h1]
    by_cases h2 : (pn t n 4 a 0).1 = a
    · rw [if_pos h2]
    · rw [if_neg h2]
theorem po_cg : ∀ o, cgr (po t n o)
  | 0 => fun a g g' h => by
    unfold po
    by_cases h1 : a < n ∧ isO (t a) = true
    · simp only [if_pos h1]
    · simp only [if_neg h1]
      exact pd_cg t n a g g' h
  | o + 1 => fun a g g' h => by
    have ih := po_cg o
    unfold po
    by_cases h1 : a < n ∧ isO (t a) = true
    · simp only [if_pos h1]
      by_cases h2 : t a = 40
      · rw [if_pos h2]
        by_cases h3 : (pv t n (po t n o) 5 (a + 1)).2.1 = false ∧ (pv t n (po t n o) 5 (a + 1)).1 < n ∧ t (pv t n (po t n o) 5 (a + 1)).1 = 41
        · rw [if_pos h3]
          exact pv_cg t n ih 5 (a + 1) g g' h
        · rw [if_neg h3]
      · rw [if_neg h2]
        dsimp only
        rw [ih (a + 1) g g' h]
    · simp only [if_neg h1]
      exact pd_cg t n a g g' h
theorem pe_cg : cgr (pe t n) := pv_cg t n (po_cg t n 6) 5
theorem pi_cg {g g' : pG} (h : ∀ i, i < 6 → g i = g' i) (a w : Nat) : (pi' t n a w).2.2.2 g = (pi' t n a w).2.2.2 g' := by
  unfold pi'
  by_cases h1 : (pe t n a).2.1 = false ∧ (pe t n a).1 < n ∧ t (pe t n a).1 = 63
  · rw [if_pos h1]
    dsimp only
    rw [pe_cg t n a g g' h, pe_cg t n _ g g' h]
  · rw [if_neg h1]
    dsimp only
    rw [pe_cg t n a g g' h]
theorem px_cg {g g' : pG} (h : ∀ i, i < 6 → g i = g' i) : ∀ (k : Nat) (r : pL), r.2.2.2 g = r.2.2.2 g' → (px t n k r).2.2.2 g = (px t n k r).2.2.2 g'
  | 0, r, hr => hr
  | k + 1, r, hr => by
    unfold px
    by_cases hc : r.2.1 = false ∧ r.1 < n ∧ t r.1 = 59
    · rw [if_pos hc]
      exact px_cg h k _ (by dsimp only; rw [hr, pi_cg t n h])
    · rw [if_neg hc]
      exact hr
theorem lv_cg {g g' : pG} (h : ∀ i, i < 6 → g i = g' i) : lv t n g = lv t n g' := by
  unfold lv
  rw [show (pt t n).2.2.2 g = (pt t n).2.2.2 g' from px_cg t n h 120 _ (pi_cg t n h 0 0)]
variable {t n}
theorem c_tell {I : sm_I} (h : clw t n I) (d N : Nat) (J : sm_J) (K : Option Value → sm_H → Prop) (a1 a2 a3 a4 a5 a6 : Int32)
    (hK : ∀ I', (∀ x b, ¬ (x = 29 ∨ x = 30) → I' x b = I x b) → K (some (.int (lv t n (gv a1 a2 a3 a4 a5 a6)))) (sm_SH N, I', J)) :
    sm_Ok (d + 1) 27 0 [.ref 27, .int a1, .int a2, .int a3, .int a4, .int a5, .int a6, .null, .null, .null, .null] [] (sm_SH N, I, J) K := by
  obtain ⟨h1, h2, h3, h4, h5, h6⟩ := h
  have hp := pt_gp t n
  have hl := hp.2 h3
  let I0 := sm_uI (sm_uI (sm_uI (sm_uI (sm_uI (sm_uI I 29 0 a1) 29 1 a2) 29 2 a3) 29 3 a4) 29 4 a5) 29 5 a6
  have f0 : ∀ x b, ¬ x = 29 → I0 x b = I x b := fun x b hx => by
    show sm_uI (sm_uI (sm_uI (sm_uI (sm_uI (sm_uI I 29 0 a1) 29 1 a2) 29 2 a3) 29 3 a4) 29 4 a5) 29 5 a6 x b = _
    rw [uI_q _ _ hx, uI_q _ _ hx, uI_q _ _ hx, uI_q _ _ hx, uI_q _ _ hx, uI_q _ _ hx]
  have fg : ∀ i, i < 6 → I0 29 i = gv a1 a2 a3 a4 a5 a6 i := fun i hi => by
    show sm_uI (sm_uI (sm_uI (sm_uI (sm_uI (sm_uI I 29 0 a1) 29 1 a2) 29 2 a3) 29 3 a4) 29 4 a5) 29 5 a6 29 i = _
    unfold gv
    simp only [uI_at, true_and]
    (repeat' split) <;> first | rfl | omega
  have cn : (0 : Int32).toNatClampNeg = 0 ∧ (1 : Int32).toNatClampNeg = 1 ∧ (2 : Int32).toNatClampNeg = 2 ∧ (3 : Int32).toNatClampNeg = 3 ∧ (4 : Int32).toNatClampNeg = 4 ∧ (5 : Int32).toNatClampNeg = 5 := by decide
  have ci : sm_in 0 6 = true ∧ sm_in 1 6 = true ∧ sm_in 2 6 = true ∧ sm_in 3 6 = true ∧ sm_in 4 6 = true ∧ sm_in 5 6 = true := by decide
  simp only [z27_0, z27_1, z27_4, z27_5, z27_6, z27_7, z27_8, z27_11, z27_12, z27_13, z27_14, z27_15, z27_18, z27_19, z27_20, z27_21, z27_22, z27_25, z27_26, z27_28, z27_29, z27_30, z27_33, z27_34, z27_36, z27_37, z27_38, z27_41, z27_42, z27_44, z27_45, z27_46, z27_48, z27_49, z27_53, z27_54, z27_57, z27_60, z27_61, z27_64, z27_66, z27_67, z27_69, z27_71, z27_74, z27_77, z27_79, z27_80, z27_83, z27_84, z27_87, z27_88, z27_91, z27_93, z27_95, z27_98, z27_101, z27_103, z27_106, z27_107, z27_110, z27_111, z27_114, z27_116, z27_119, z27_120, z27_121, z27_124, z27_125, z27_126, z27_129, z27_132, z27_134, z27_135, z27_138, z27_139, z27_140, z27_142, z27_144, z27_147, z27_148, z27_151, z27_153, z27_154, z27_155, z27_156, z27_157, z27_159, z27_161, z27_164, z27_167, z27_169, z27_170, z27_171, z27_172, z27_175, z27_178, z27_179, z27_182, z27_184, z27_185, z27_186, z27_187, z27_190, z27_191, z27_194, z27_196, z27_197, z27_200, z27_202, z27_203, z27_206, z27_208, z27_209, z27_210, z27_213, z27_215, z27_217, z27_218, z27_219, z27_222, z27_224, z27_227, z27_229, z27_231, z27_234, z27_236, z27_238, z27_241, z27_242, z27_245, z27_247, z27_248, z27_249, z27_251, z27_252, z27_255, z27_257, z27_258, z27_259, z27_260, z27_263, z27_264, z27_267, z27_269, z27_270, z27_273, z27_276, z27_277, z27_280, z27_282, z27_283, z27_284, z27_286, z27_287, z27_290, z27_292, z27_293, z27_294, z27_295, z27_296, z27_299, z27_301, z27_302, z27_305, z27_306, z27_309, z27_312, z27_313, sm_cti, sm_ctr, sm_ctn, sm_nbi, Option.toList_some, Option.toList_none, List.cons_append, List.nil_append, ne_eq, reduceCtorEq, not_false_eq_true, Nat.reduceLeDiff, kc27, kc29, rf27_1, cn, ci, if_true, if_false, not_true_eq_false, not_false_eq_true, and_true, true_and, and_false, false_and, and_self, or_true, true_or, or_false, false_or, reduceIte, iff_self, Int32.add_zero, y_10, Classical.not_not]
  have hpt : px t n 120 (pi' t n 0 0) = pt t n := rfl
  obtain ⟨rest, hr⟩ := px_pre (t := t) (n := n) 120 (pi' t n 0 0)
  rw [hpt] at hr
  have w0 : (pi' t n 0 0).2.1 = false := px_wr 120 _ (by rw [hpt]; exact h3)
  have hlen : (pt t n).2.2.1.length = (pi' t n 0 0).2.2.1.length + rest.length := by rw [hr, List.length_append]
  have key : ∀ I', (∀ x b, ¬ x = 30 → I' x b = I0 x b) → K (some (.int (((pt t n).2.2.2 (I0 29)).getD 0))) (sm_SH N, I', J) := fun I' f => by
    have e : ((pt t n).2.2.2 (I0 29)).getD 0 = lv t n (gv a1 a2 a3 a4 a5 a6) := lv_cg t n fg
    rw [e]
    exact hK I' (fun x b hx => by rw [f x b (by omega), f0 x b (by omega)])
  rw [show (0 : Int32) = nI 0 from nI_0.symm]
  refine tl_line h2 d N J K I0 a1 a2 a3 a4 a5 a6 .null .null 0 0 (pt t n).2.2.1.length (by rw [f0 _ _ (by omega), h5]) (by omega) w0 (by omega) (fun j hj => ?_) (fun v hv I' f => ?_) (fun hv I' y9 y10 f => ?_)
  · rw [Nat.zero_add, f0 _ _ (by omega), h6 j (by omega), hr, gD_l hj]
  · have := key I' f
    rw [show (pt t n).2.2.2 (I0 29) = some v from px_some (t := t) (n := n) 120 _ hv] at this
    exact this
  · have g29 : I' 29 = I0 29 := funext (fun b => f 29 b (by omega))
    have ih := tl_lp h2 d N J K a1 a2 a3 a4 a5 a6 (pt t n).2.2.1.length (by omega) 120 (pi' t n 0 0) I' (.int y9) (.int y10) (by rw [f _ _ (by omega), f0 _ _ (by omega), h5]) h3 rfl (fun j hj => by rw [f _ _ (by omega), f0 _ _ (by omega), h6 j hj]; rfl) (by rw [g29]; exact hv) (fun I2 f2 => by rw [g29]; exact key I2 (fun x b hx => by rw [f2 x b hx, f x b hx]))
    rw [Nat.zero_add]
    exact ih
end
