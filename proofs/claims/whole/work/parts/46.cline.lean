/-! how the class reads a text: lines, the whole -/
section
variable {t : Nat → Nat} {N : Nat} {xs : Nat → Int32}
theorem cpo_set {w a : Nat} {c1 c2 : List Int32} {u v : Int32} {I I4 : sm_I} (h : cpo w a false (c1 ++ u :: c2) I I4) : cpo w a false (c1 ++ v :: c2) I (sm_uI I4 32 (w + c1.length) v) := by
  obtain ⟨f1, f2, f3, f4, f5, f6⟩ := h
  obtain ⟨k1, k2, k3, k4⟩ := f6 rfl
  have el : (c1 ++ v :: c2).length = (c1 ++ u :: c2).length := by simp only [List.length_append, List.length_cons]
  refine ⟨fun x b hx => by rw [uI_q _ _ (by omega), f1 x b hx], by rw [uI_q _ _ (by omega), f2], by rw [uI_q _ _ (by omega), f3], by rw [uI_q _ _ (by omega), f4], (fun z => by cases z), fun _ => ⟨by rw [uI_q _ _ (by omega), k1], by rw [uI_q _ _ (by omega), k2, el], fun j hj => by rw [uI_o _ _ (by omega), k3 j hj], fun j hj => ?_⟩⟩
  rw [el] at hj
  by_cases hc : j = c1.length
  · subst hc
    rw [uI_s, gD_r (Nat.le_refl _), Nat.sub_self]
    rfl
  · rw [uI_o _ _ (by omega), k4 j hj]
    by_cases hl : j < c1.length
    · rw [gD_l hl, gD_l hl]
    · rw [gD_r (by omega), gD_r (by omega)]
      have e : j - c1.length = j - c1.length - 1 + 1 := by omega
      rw [e]
      rfl
theorem c_line (d n : Nat) (J : sm_J) (K : Option Value → sm_H → Prop) (I : sm_I) (a w : Nat) (h1 : iv_ro xs I) (h2 : ctp t N I) (h3 : a ≤ N) (h4 : w ≤ 2 * a + 2) (h5 : I 31 4 = nI a) (h6 : I 31 5 = 0) (h7 : I 31 1 = nI w) (h8 : I 31 6 = 0)
    (hK : ∀ I', cpo w (pi' t N a w).1 (pi' t N a w).2.1 (pi' t N a w).2.2.1 I I' → K none (sm_SH n, I', J)) : sm_Ok (d + 77) 33 0 [.ref 31, .null] [] (sm_SH n, I, J) K := by
  have hN := h2.1
  have ex := c_expr (t := t) (N := N) (xs := xs)
  unfold cjt at ex
  rw [nI_0] at ex
  simp only [z33_0, z33_1, z33_2, z33_5, z33_6, z33_8, z33_11, z33_14, z33_15, z33_17, z33_20, z33_21, z33_22, z33_24, z33_27, z33_28, z33_31, z33_32, z33_33, z33_34, z33_37, z33_38, z33_39, z33_42, z33_43, z33_45, z33_48, z33_49, z33_50, z33_53, z33_54, z33_57, z33_58, z33_61, z33_62, z33_63, z33_66, z33_67, sm_cti, sm_ctr, sm_ctn, sm_nbi, Option.toList_some, Option.toList_none, List.cons_append, List.nil_append, ne_eq, reduceCtorEq, not_false_eq_true, Nat.reduceLeDiff, rc31, if_true, if_false, not_true_eq_false, not_false_eq_true, and_true, true_and, and_false, false_and, and_self, or_true, true_or, or_false, false_or, reduceIte, iff_self, Int32.add_zero, y_10, Classical.not_not]
  refine ex d n J _ I a w h1 h2 h3 h4 h5 h6 h7 h8 (fun I1 c1 => ?_)
  obtain ⟨g1, g2, g3⟩ := pe_gp t N a h3
  have ro1 := cpo_ro c1 h1
  have tp1 := cpo_tp c1 h2
  unfold pi' at hK
  cases hwr : (pe t N a).2.1 with
  | true =>
    rw [hwr] at c1
    rw [if_neg (fun z => by rw [hwr] at z; cases z.1), hwr] at hK
    have w1 := c1.2.2.2.2.1 rfl
    simp only [z33_0, z33_1, z33_2, z33_5, z33_6, z33_8, z33_11, z33_14, z33_15, z33_17, z33_20, z33_21, z33_22, z33_24, z33_27, z33_28, z33_31, z33_32, z33_33, z33_34, z33_37, z33_38, z33_39, z33_42, z33_43, z33_45, z33_48, z33_49, z33_50, z33_53, z33_54, z33_57, z33_58, z33_61, z33_62, z33_63, z33_66, z33_67, sm_cti, sm_ctr, sm_ctn, sm_nbi, Option.toList_some, Option.toList_none, List.cons_append, List.nil_append, ne_eq, reduceCtorEq, not_false_eq_true, Nat.reduceLeDiff, rc31, c_skipW _ _ _ _ _ w1, c_emitW _ _ _ _ w1, if_true, if_false, not_true_eq_false, not_false_eq_true, and_true, true_and, and_false, false_and, and_self, or_true, true_or, or_false, false_or, reduceIte, iff_self, Int32.add_zero, y_10, Classical.not_not]
    exact hK _ (cpo_cw c1)
  | false =>
    rw [hwr] at c1
    obtain ⟨v1, v2, v3, v4⟩ := c1.2.2.2.2.2 rfl
    obtain ⟨g4, g5⟩ := g3 hwr
    have sk := fun d K => c_skip ro1 tp1 d n J K (i := 1) (a := (pe t N a).1) (by decide) g2 c1.2.2.1 v1
    simp only [Nat.reduceAdd, show ∀ v, (tx 1 v = true) = (v = 63) from fun v => by simp [tx]] at sk
    simp only [z33_0, z33_1, z33_2, z33_5, z33_6, z33_8, z33_11, z33_14, z33_15, z33_17, z33_20, z33_21, z33_22, z33_24, z33_27, z33_28, z33_31, z33_32, z33_33, z33_34, z33_37, z33_38, z33_39, z33_42, z33_43, z33_45, z33_48, z33_49, z33_50, z33_53, z33_54, z33_57, z33_58, z33_61, z33_62, z33_63, z33_66, z33_67, sm_cti, sm_ctr, sm_ctn, sm_nbi, Option.toList_some, Option.toList_none, List.cons_append, List.nil_append, ne_eq, reduceCtorEq, not_false_eq_true, Nat.reduceLeDiff, rc31, sk, if_true, if_false, not_true_eq_false, not_false_eq_true, and_true, true_and, and_false, false_and, and_self, or_true, true_or, or_false, false_or, reduceIte, iff_self, Int32.add_zero, y_10, Classical.not_not]
    by_cases hd : (pe t N a).1 < N ∧ t (pe t N a).1 = 63
    · rw [if_pos hd]
      rw [if_pos ⟨hwr, hd⟩] at hK
      have h63 : ¬ nI (t (pe t N a).1) = 0 := by rw [hd.2]; decide
      have c2 := cpo_tr c1 rfl (cpo_at (a := (pe t N a).1 + 1) v1 v2)
      rw [List.append_nil] at c2
      obtain ⟨x1, x2, x3, x4⟩ := c2.2.2.2.2.2 rfl
      have c3 := cpo_tr c2 rfl (cpo_em (w := w + (pe t N a).2.2.1.length) c2.2.2.1 x1 63)
      obtain ⟨y1, y2, y3, y4⟩ := c3.2.2.2.2.2 rfl
      have y2' := y2
      rw [List.length_append, ← Nat.add_assoc] at y2'
      have c4 := cpo_tr c3 rfl (cpo_em (w := w + ((pe t N a).2.2.1 ++ [63]).length) c3.2.2.1 y1 0)
      obtain ⟨u1, u2, u3, u4⟩ := c4.2.2.2.2.2 rfl
      have el : w + ((pe t N a).2.2.1 ++ [63]).length = w + (pe t N a).2.2.1.length + 1 := by rw [List.length_append, ← Nat.add_assoc]; rfl
      have el2 : w + ((pe t N a).2.2.1 ++ [63] ++ [0]).length = w + (pe t N a).2.2.1.length + 2 := by simp only [List.length_append, List.length_cons, List.length_nil]; omega
      rw [el] at c4 u1 u2 u3 u4
      have em1 := fun d K => c_emit d n J K (w := w + (pe t N a).2.2.1.length) (by omega) x2 x1 63
      have em2 := fun d K => c_emit d n J K (w := w + (pe t N a).2.2.1.length + 1) (by omega) y2' y1 0
      have hole : sm_uI (sm_uI (sm_uI I1 31 4 (nI ((pe t N a).1 + 1))) 32 (w + (pe t N a).2.2.1.length) 63) 31 1 (nI (w + (pe t N a).2.2.1.length + 1)) 31 1 = nI (w + (pe t N a).2.2.1.length + 1) := uI_s _ _ _ _
      simp only [z33_0, z33_1, z33_2, z33_5, z33_6, z33_8, z33_11, z33_14, z33_15, z33_17, z33_20, z33_21, z33_22, z33_24, z33_27, z33_28, z33_31, z33_32, z33_33, z33_34, z33_37, z33_38, z33_39, z33_42, z33_43, z33_45, z33_48, z33_49, z33_50, z33_53, z33_54, z33_57, z33_58, z33_61, z33_62, z33_63, z33_66, z33_67, sm_cti, sm_ctr, sm_ctn, sm_nbi, Option.toList_some, Option.toList_none, List.cons_append, List.nil_append, ne_eq, reduceCtorEq, not_false_eq_true, Nat.reduceLeDiff, kc31, rc31, h63, em1, hole, em2, if_true, if_false, not_true_eq_false, not_false_eq_true, and_true, true_and, and_false, false_and, and_self, or_true, true_or, or_false, false_or, reduceIte, iff_self, Int32.add_zero, y_10, Classical.not_not]
      refine ex d n J _ _ ((pe t N a).1 + 1) (w + (pe t N a).2.2.1.length + 2) (cpo_ro c4 h1) (cpo_tp c4 h2) (by omega) (by omega) c4.2.2.1 (by rw [c4.2.2.2.1, h6]) (by rw [u2, el2]) u1 (fun I5 c5 => ?_)
      obtain ⟨k1, k2, k3⟩ := pe_gp t N ((pe t N a).1 + 1) (by omega)
      have hh : ¬ (256 : Int32) ≤ nI (w + (pe t N a).2.2.1.length + 1) := nI_ge (b := 256) (by omega) (by decide)
      have hi : sm_in (nI (w + (pe t N a).2.2.1.length + 1)) 256 = true := y_inN (by omega) (by decide)
      have hc := nI_clamp (show w + (pe t N a).2.2.1.length + 1 < 2 ^ 31 by omega)
      have e4 : Int32.ofNat 256 = 256 := rfl
      cases hw2 : (pe t N ((pe t N a).1 + 1)).2.1 with
      | true =>
        rw [hw2] at c5 hK
        have w5 := c5.2.2.2.2.1 rfl
        simp only [z33_0, z33_1, z33_2, z33_5, z33_6, z33_8, z33_11, z33_14, z33_15, z33_17, z33_20, z33_21, z33_22, z33_24, z33_27, z33_28, z33_31, z33_32, z33_33, z33_34, z33_37, z33_38, z33_39, z33_42, z33_43, z33_45, z33_48, z33_49, z33_50, z33_53, z33_54, z33_57, z33_58, z33_61, z33_62, z33_63, z33_66, z33_67, sm_cti, sm_ctr, sm_ctn, sm_nbi, Option.toList_some, Option.toList_none, List.cons_append, List.nil_append, ne_eq, reduceCtorEq, not_false_eq_true, Nat.reduceLeDiff, kc31, kc32, rc31, rf31_0, c_emitW _ _ _ _ w5, e4, hh, hi, hc, if_true, if_false, not_true_eq_false, not_false_eq_true, and_true, true_and, and_false, false_and, and_self, or_true, true_or, or_false, false_or, reduceIte, iff_self, Int32.add_zero, y_10, Classical.not_not]
        refine hK _ ?_
        have c6 := cpo_tr c4 (by rw [el2]) c5
        obtain ⟨f1, f2, f3, f4, f5, f6⟩ := c6
        exact ⟨fun x b hx => by rw [uI_q _ _ (by omega), f1 x b hx], by rw [uI_q _ _ (by omega), f2], by rw [uI_q _ _ (by omega), f3], by rw [uI_q _ _ (by omega), f4], fun z => by rw [uI_q _ _ (by omega), f5 z], fun z => by cases z⟩
      | false =>
        rw [hw2] at c5 hK
        obtain ⟨q1, q2, q3, q4⟩ := c5.2.2.2.2.2 rfl
        obtain ⟨k4, k5⟩ := k3 hw2
        have em3 := fun d K => c_emit (I := I5) d n J K (w := w + (pe t N a).2.2.1.length + 2 + (pe t N ((pe t N a).1 + 1)).2.2.1.length) (by omega) q2 q1 59
        have wr5 : sm_uI (sm_uI I5 32 (w + (pe t N a).2.2.1.length + 2 + (pe t N ((pe t N a).1 + 1)).2.2.1.length) 59) 31 1 (nI (w + (pe t N a).2.2.1.length + 2 + (pe t N ((pe t N a).1 + 1)).2.2.1.length + 1)) 31 1 = nI (w + (pe t N a).2.2.1.length + 2 + (pe t N ((pe t N a).1 + 1)).2.2.1.length + 1) := uI_s _ _ _ _
        simp only [z33_0, z33_1, z33_2, z33_5, z33_6, z33_8, z33_11, z33_14, z33_15, z33_17, z33_20, z33_21, z33_22, z33_24, z33_27, z33_28, z33_31, z33_32, z33_33, z33_34, z33_37, z33_38, z33_39, z33_42, z33_43, z33_45, z33_48, z33_49, z33_50, z33_53, z33_54, z33_57, z33_58, z33_61, z33_62, z33_63, z33_66, z33_67, sm_cti, sm_ctr, sm_ctn, sm_nbi, Option.toList_some, Option.toList_none, List.cons_append, List.nil_append, ne_eq, reduceCtorEq, not_false_eq_true, Nat.reduceLeDiff, kc31, kc32, rc31, rf31_0, em3, e4, hh, hi, hc, wr5, if_true, if_false, not_true_eq_false, not_false_eq_true, and_true, true_and, and_false, false_and, and_self, or_true, true_or, or_false, false_or, reduceIte, iff_self, Int32.add_zero, y_10, Classical.not_not]
        refine hK _ ?_
        have c6 := cpo_tr (cpo_tr c4 (by rw [el2]) c5) (by simp only [List.length_append, List.length_cons, List.length_nil]; omega) (cpo_em (w := w + (pe t N a).2.2.1.length + 2 + (pe t N ((pe t N a).1 + 1)).2.2.1.length) c5.2.2.1 q1 59)
        have eL : (pe t N a).2.2.1 ++ [63] ++ [0] ++ (pe t N ((pe t N a).1 + 1)).2.2.1 ++ [59] = ((pe t N a).2.2.1 ++ [63]) ++ 0 :: ((pe t N ((pe t N a).1 + 1)).2.2.1 ++ [59]) := by simp only [List.append_assoc, List.cons_append, List.nil_append]
        rw [eL] at c6
        have c7 := cpo_set (v := nI (w + (pe t N a).2.2.1.length + 2 + (pe t N ((pe t N a).1 + 1)).2.2.1.length + 1)) c6
        rw [el] at c7
        have eL2 : (pe t N a).2.2.1 ++ 63 :: nI (w + (pe t N a).2.2.1.length + 2 + (pe t N ((pe t N a).1 + 1)).2.2.1.length + 1) :: ((pe t N ((pe t N a).1 + 1)).2.2.1 ++ [59]) = ((pe t N a).2.2.1 ++ [63]) ++ nI (w + (pe t N a).2.2.1.length + 2 + (pe t N ((pe t N a).1 + 1)).2.2.1.length + 1) :: ((pe t N ((pe t N a).1 + 1)).2.2.1 ++ [59]) := by simp only [List.append_assoc, List.cons_append, List.nil_append]
        rw [eL2]
        exact c7
    · rw [if_neg hd]
      rw [if_neg (fun z => hd z.2), hwr] at hK
      simp only [z33_0, z33_1, z33_2, z33_5, z33_6, z33_8, z33_11, z33_14, z33_15, z33_17, z33_20, z33_21, z33_22, z33_24, z33_27, z33_28, z33_31, z33_32, z33_33, z33_34, z33_37, z33_38, z33_39, z33_42, z33_43, z33_45, z33_48, z33_49, z33_50, z33_53, z33_54, z33_57, z33_58, z33_61, z33_62, z33_63, z33_66, z33_67, sm_cti, sm_ctr, sm_ctn, sm_nbi, Option.toList_some, Option.toList_none, List.cons_append, List.nil_append, ne_eq, reduceCtorEq, not_false_eq_true, Nat.reduceLeDiff, rc31, c_emit _ _ _ _ (show w + (pe t N a).2.2.1.length < 256 by omega) v2 v1, if_true, if_false, not_true_eq_false, not_false_eq_true, and_true, true_and, and_false, false_and, and_self, or_true, true_or, or_false, false_or, reduceIte, iff_self, Int32.add_zero, y_10, Classical.not_not]
      exact hK _ (cpo_tr c1 rfl (cpo_em c1.2.2.1 v1 59))
theorem c_rd_lp {I : sm_I} (h1 : iv_ro xs I) (h2 : ctp t N I) (h6 : I 31 5 = 0) (d n : Nat) (J : sm_J) (K : Option Value → sm_H → Prop) : ∀ (k i : Nat) (r : pL), i + k = 120 → r.1 ≤ N → (r.2.1 = false → r.2.2.1.length ≤ 2 * r.1) → ∀ I1, cpo 0 r.1 r.2.1 r.2.2.1 I I1 →
    (∀ I' x1, cpo 0 (px t N k r).1 (px t N k r).2.1 (px t N k r).2.2.1 I I' → sm_Ok (d + 78) 32 51 [.ref 31, .int x1] [] (sm_SH n, I', J) K) →
    sm_Ok (d + 78) 32 26 [.ref 31, .int (nI i)] [] (sm_SH n, I1, J) K
  | 0, i, r, hi, hN, hr, I1, c1, hK => by
    have e : (120 : Int32) ≤ nI i := nI_le (a := 120) (by omega) (by omega)
    rw [z32_26]
    simp only [z32_27, z32_29, sm_cti, sm_ctr, sm_ctn, sm_nbi, Option.toList_some, Option.toList_none, List.cons_append, List.nil_append, ne_eq, reduceCtorEq, not_false_eq_true, Nat.reduceLeDiff, e, if_true, if_false, not_true_eq_false, not_false_eq_true, and_true, true_and, and_false, false_and, and_self, or_true, true_or, or_false, false_or, reduceIte, iff_self, Int32.add_zero, y_10, Classical.not_not]
    exact hK _ _ c1
  | k + 1, i, r, hi, hN, hr, I1, c1, hK => by
    have e : ¬ (120 : Int32) ≤ nI i := nI_ge (b := 120) (by omega) (by decide)
    have ro1 := cpo_ro c1 h1
    have tp1 := cpo_tp c1 h2
    rw [z32_26]
    by_cases hc : r.2.1 = false ∧ r.1 < N ∧ t r.1 = 59
    · have hp : px t N (k + 1) r = px t N k ((pi' t N (r.1 + 1) r.2.2.1.length).1, (pi' t N (r.1 + 1) r.2.2.1.length).2.1, r.2.2.1 ++ (pi' t N (r.1 + 1) r.2.2.1.length).2.2.1, fun g => (r.2.2.2 g).or ((pi' t N (r.1 + 1) r.2.2.1.length).2.2.2 g)) := by
        rw [px, if_pos hc]
      rw [hp] at hK
      have hl := hr hc.1
      rw [hc.1] at c1
      obtain ⟨v1, v2, v3, v4⟩ := c1.2.2.2.2.2 rfl
      have sk := fun d K => c_skip ro1 tp1 d n J K (i := 0) (a := r.1) (by decide) hN c1.2.2.1 v1
      simp only [Nat.reduceAdd, show ∀ v, (tx 0 v = true) = (v = 59) from fun v => by simp [tx]] at sk
      have c2 := cpo_tr c1 rfl (cpo_at (a := r.1 + 1) v1 v2)
      rw [List.append_nil] at c2
      obtain ⟨x1, x2, x3, x4⟩ := c2.2.2.2.2.2 rfl
      have h59 : ¬ nI (t r.1) = 0 := by rw [hc.2.2]; decide
      simp only [z32_27, z32_29, z32_32, z32_33, z32_35, sm_cti, sm_ctr, sm_ctn, sm_nbi, Option.toList_some, Option.toList_none, List.cons_append, List.nil_append, ne_eq, reduceCtorEq, not_false_eq_true, Nat.reduceLeDiff, rc31, e, sk, if_pos hc.2, if_true, if_false, not_true_eq_false, not_false_eq_true, and_true, true_and, and_false, false_and, and_self, or_true, true_or, or_false, false_or, reduceIte, iff_self, Int32.add_zero, y_10, Classical.not_not]
      simp only [z32_38, z32_41, z32_42, sm_cti, sm_ctr, sm_ctn, sm_nbi, Option.toList_some, Option.toList_none, List.cons_append, List.nil_append, ne_eq, reduceCtorEq, not_false_eq_true, Nat.reduceLeDiff, rc31, h59, if_true, if_false, not_true_eq_false, not_false_eq_true, and_true, true_and, and_false, false_and, and_self, or_true, true_or, or_false, false_or, reduceIte, iff_self, Int32.add_zero, y_10, Classical.not_not]
      rw [Nat.zero_add] at x2
      refine c_line d n J _ _ (r.1 + 1) r.2.2.1.length (cpo_ro c2 h1) (cpo_tp c2 h2) (by omega) (by omega) c2.2.2.1 (by rw [c2.2.2.2.1, h6]) x2 x1 (fun I3 c3 => ?_)
      obtain ⟨g1, g2, g3⟩ := pi_gp t N (r.1 + 1) r.2.2.1.length (by omega)
      simp only [z32_45, z32_48, sm_cti, sm_ctr, sm_ctn, sm_nbi, Option.toList_some, Option.toList_none, List.cons_append, List.nil_append, ne_eq, reduceCtorEq, not_false_eq_true, Nat.reduceLeDiff, nI_1, if_true, if_false, not_true_eq_false, not_false_eq_true, and_true, true_and, and_false, false_and, and_self, or_true, true_or, or_false, false_or, reduceIte, iff_self, Int32.add_zero, y_10, Classical.not_not]
      refine c_rd_lp h1 h2 h6 d n J K k (i + 1) ((pi' t N (r.1 + 1) r.2.2.1.length).1, (pi' t N (r.1 + 1) r.2.2.1.length).2.1, r.2.2.1 ++ (pi' t N (r.1 + 1) r.2.2.1.length).2.2.1, fun g => (r.2.2.2 g).or ((pi' t N (r.1 + 1) r.2.2.1.length).2.2.2 g)) (by omega) g2 (fun hw => ?_) I3 (cpo_tr c2 (by rw [Nat.zero_add]) c3) hK
      have := g3 hw
      simp only [List.length_append]
      omega
    · have hp : px t N (k + 1) r = r := by rw [px, if_neg hc]
      rw [hp] at hK
      cases hwr : r.2.1 with
      | true =>
        have w1 := c1.2.2.2.2.1 hwr
        simp only [z32_27, z32_29, z32_32, z32_33, z32_35, z32_38, sm_cti, sm_ctr, sm_ctn, sm_nbi, Option.toList_some, Option.toList_none, List.cons_append, List.nil_append, ne_eq, reduceCtorEq, not_false_eq_true, Nat.reduceLeDiff, rc31, e, c_skipW _ _ _ _ _ w1, if_true, if_false, not_true_eq_false, not_false_eq_true, and_true, true_and, and_false, false_and, and_self, or_true, true_or, or_false, false_or, reduceIte, iff_self, Int32.add_zero, y_10, Classical.not_not]
        exact hK _ _ c1
      | false =>
        obtain ⟨v1, v2, v3, v4⟩ := c1.2.2.2.2.2 hwr
        have sk := fun d K => c_skip ro1 tp1 d n J K (i := 0) (a := r.1) (by decide) hN c1.2.2.1 v1
        simp only [Nat.reduceAdd, show ∀ v, (tx 0 v = true) = (v = 59) from fun v => by simp [tx]] at sk
        simp only [z32_27, z32_29, z32_32, z32_33, z32_35, z32_38, sm_cti, sm_ctr, sm_ctn, sm_nbi, Option.toList_some, Option.toList_none, List.cons_append, List.nil_append, ne_eq, reduceCtorEq, not_false_eq_true, Nat.reduceLeDiff, rc31, e, sk, if_neg (fun z => hc ⟨hwr, z⟩), if_true, if_false, not_true_eq_false, not_false_eq_true, and_true, true_and, and_false, false_and, and_self, or_true, true_or, or_false, false_or, reduceIte, iff_self, Int32.add_zero, y_10, Classical.not_not]
        exact hK _ _ c1
/-- the whole reading: -1, or the fault -/
theorem c_read {I : sm_I} (h1 : iv_ro xs I) (h2 : ctp t N I) (d n : Nat) (J : sm_J) (K : Option Value → sm_H → Prop)
    (hK : ∀ I', (∀ x b, ¬ (x = 31 ∨ x = 32) → I' x b = I x b) → I' 31 2 = I 31 2 → ((pt t N).2.1 = false → I' 31 1 = nI (pt t N).2.2.1.length ∧ ∀ j, j < (pt t N).2.2.1.length → I' 32 j = (pt t N).2.2.1.getD j 0) → K (some (.int (if (pt t N).2.1 = false ∧ (pt t N).1 = N then -1 else nI (pt t N).1))) (sm_SH n, I', J)) : sm_Ok (d + 78) 32 0 [.ref 31, .null] [] (sm_SH n, I, J) K := by
  have hN := h2.1
  have e0 : (0 : Int32) = 0 ∨ (0 : Int32) = 1 := Or.inl rfl
  let I0 := sm_uI (sm_uI (sm_uI (sm_uI I 31 4 0) 31 5 0) 31 1 0) 31 6 0
  have f0 : ∀ x b, ¬ x = 31 → I0 x b = I x b := fun x b hx => by
    show sm_uI (sm_uI (sm_uI (sm_uI I 31 4 0) 31 5 0) 31 1 0) 31 6 0 x b = _
    rw [uI_q _ _ hx, uI_q _ _ hx, uI_q _ _ hx, uI_q _ _ hx]
  have f2 : I0 31 2 = I 31 2 := by
    show sm_uI (sm_uI (sm_uI (sm_uI I 31 4 0) 31 5 0) 31 1 0) 31 6 0 31 2 = _
    rw [uI_o _ _ (by omega), uI_o _ _ (by omega), uI_o _ _ (by omega), uI_o _ _ (by omega)]
  have f4 : I0 31 4 = nI 0 := by
    show sm_uI (sm_uI (sm_uI (sm_uI I 31 4 0) 31 5 0) 31 1 0) 31 6 0 31 4 = _
    rw [uI_o _ _ (by omega), uI_o _ _ (by omega), uI_o _ _ (by omega), uI_s]
    rfl
  have f5 : I0 31 5 = 0 := by
    show sm_uI (sm_uI (sm_uI (sm_uI I 31 4 0) 31 5 0) 31 1 0) 31 6 0 31 5 = _
    rw [uI_o _ _ (by omega), uI_o _ _ (by omega), uI_s]
  have f1 : I0 31 1 = nI 0 := by
    show sm_uI (sm_uI (sm_uI (sm_uI I 31 4 0) 31 5 0) 31 1 0) 31 6 0 31 1 = _
    rw [uI_o _ _ (by omega), uI_s]
    rfl
  have f6 : I0 31 6 = 0 := uI_s _ _ _ _
  have ro0 : iv_ro xs I0 := iv_ro_f h1 (fun x b hx => f0 x b (by omega))
  have tp0 : ctp t N I0 := ctp_f h2 f2 (fun b => f0 33 b (by omega))
  simp only [z32_0, z32_1, z32_2, z32_5, z32_6, z32_7, z32_10, z32_11, z32_12, z32_15, z32_16, z32_17, z32_20, z32_21, sm_cti, sm_ctr, sm_ctn, sm_nbi, Option.toList_some, Option.toList_none, List.cons_append, List.nil_append, ne_eq, reduceCtorEq, not_false_eq_true, Nat.reduceLeDiff, kc31, rc31, e0, if_true, if_false, not_true_eq_false, not_false_eq_true, and_true, true_and, and_false, false_and, and_self, or_true, true_or, or_false, false_or, reduceIte, iff_self, Int32.add_zero, y_10, Classical.not_not]
  refine c_line d n J _ I0 0 0 ro0 tp0 (Nat.zero_le _) (by omega) f4 f5 f1 f6 (fun I1 c1 => ?_)
  simp only [z32_24, z32_25, sm_cti, sm_ctr, sm_ctn, sm_nbi, Option.toList_some, Option.toList_none, List.cons_append, List.nil_append, ne_eq, reduceCtorEq, not_false_eq_true, Nat.reduceLeDiff, if_true, if_false, not_true_eq_false, not_false_eq_true, and_true, true_and, and_false, false_and, and_self, or_true, true_or, or_false, false_or, reduceIte, iff_self, Int32.add_zero, y_10, Classical.not_not]
  obtain ⟨g1, g2, g3⟩ := pi_gp t N 0 0 (Nat.zero_le _)
  refine c_rd_lp ro0 tp0 f5 d n J K 120 0 (pi' t N 0 0) (by omega) g2 (fun hw => by have := g3 hw; omega) I1 c1 (fun I' x1 c2 => ?_)
  have hpt : px t N 120 (pi' t N 0 0) = pt t N := rfl
  rw [hpt] at c2
  obtain ⟨p1, p2⟩ := pt_gp t N
  have l2 : I' 31 2 = nI N := by rw [c2.2.1, f2, h2.2.1]
  have eA : (nI (pt t N).1 = nI N) = ((pt t N).1 = N) := propext (nI_eq (by omega) (by omega))
  have key := hK I' (fun x b hx => by rw [c2.1 x b hx, f0 x b (by omega)]) (by rw [c2.2.1, f2]) (fun hw => by
    obtain ⟨k1, k2, k3, k4⟩ := c2.2.2.2.2.2 hw
    rw [Nat.zero_add] at k2
    refine ⟨k2, fun j hj => ?_⟩
    have := k4 j hj
    rw [Nat.zero_add] at this
    exact this)
  cases hwr : (pt t N).2.1 with
  | true =>
    have w1 := c2.2.2.2.2.1 hwr
    rw [if_neg (fun z => by rw [hwr] at z; cases z.1)] at key
    simp only [z32_0, z32_1, z32_2, z32_5, z32_6, z32_7, z32_10, z32_11, z32_12, z32_15, z32_16, z32_17, z32_20, z32_21, z32_24, z32_25, z32_27, z32_29, z32_32, z32_33, z32_35, z32_38, z32_41, z32_42, z32_45, z32_48, z32_51, z32_52, z32_55, z32_58, z32_59, z32_62, z32_63, z32_66, z32_69, z32_70, z32_73, z32_74, z32_77, sm_cti, sm_ctr, sm_ctn, sm_nbi, Option.toList_some, Option.toList_none, List.cons_append, List.nil_append, ne_eq, reduceCtorEq, not_false_eq_true, Nat.reduceLeDiff, kc31, w1, c2.2.2.1, if_true, if_false, not_true_eq_false, not_false_eq_true, and_true, true_and, and_false, false_and, and_self, or_true, true_or, or_false, false_or, reduceIte, iff_self, Int32.add_zero, y_10, Classical.not_not]
    exact key
  | false =>
    have w1 := (c2.2.2.2.2.2 hwr).1
    simp only [z32_0, z32_1, z32_2, z32_5, z32_6, z32_7, z32_10, z32_11, z32_12, z32_15, z32_16, z32_17, z32_20, z32_21, z32_24, z32_25, z32_27, z32_29, z32_32, z32_33, z32_35, z32_38, z32_41, z32_42, z32_45, z32_48, z32_51, z32_52, z32_55, z32_58, z32_59, z32_62, z32_63, z32_66, z32_69, z32_70, z32_73, z32_74, z32_77, sm_cti, sm_ctr, sm_ctn, sm_nbi, Option.toList_some, Option.toList_none, List.cons_append, List.nil_append, ne_eq, reduceCtorEq, not_false_eq_true, Nat.reduceLeDiff, kc31, w1, c2.2.2.1, l2, eA, if_true, if_false, not_true_eq_false, not_false_eq_true, and_true, true_and, and_false, false_and, and_self, or_true, true_or, or_false, false_or, reduceIte, iff_self, Int32.add_zero, y_10, Classical.not_not]
    by_cases hq : (pt t N).1 = N
    · rw [if_pos ⟨hwr, hq⟩] at key
      simp only [hq, z32_0, z32_1, z32_2, z32_5, z32_6, z32_7, z32_10, z32_11, z32_12, z32_15, z32_16, z32_17, z32_20, z32_21, z32_24, z32_25, z32_27, z32_29, z32_32, z32_33, z32_35, z32_38, z32_41, z32_42, z32_45, z32_48, z32_51, z32_52, z32_55, z32_58, z32_59, z32_62, z32_63, z32_66, z32_69, z32_70, z32_73, z32_74, z32_77, sm_cti, sm_ctr, sm_ctn, sm_nbi, Option.toList_some, Option.toList_none, List.cons_append, List.nil_append, ne_eq, reduceCtorEq, not_false_eq_true, Nat.reduceLeDiff, if_true, if_false, not_true_eq_false, not_false_eq_true, and_true, true_and, and_false, false_and, and_self, or_true, true_or, or_false, false_or, reduceIte, iff_self, Int32.add_zero, y_10, Classical.not_not]
      exact key
    · rw [if_neg (fun z => hq z.2)] at key
      simp only [hq, z32_0, z32_1, z32_2, z32_5, z32_6, z32_7, z32_10, z32_11, z32_12, z32_15, z32_16, z32_17, z32_20, z32_21, z32_24, z32_25, z32_27, z32_29, z32_32, z32_33, z32_35, z32_38, z32_41, z32_42, z32_45, z32_48, z32_51, z32_52, z32_55, z32_58, z32_59, z32_62, z32_63, z32_66, z32_69, z32_70, z32_73, z32_74, z32_77, sm_cti, sm_ctr, sm_ctn, sm_nbi, Option.toList_some, Option.toList_none, List.cons_append, List.nil_append, ne_eq, reduceCtorEq, not_false_eq_true, Nat.reduceLeDiff, kc31, c2.2.2.1, if_true, if_false, not_true_eq_false, not_false_eq_true, and_true, true_and, and_false, false_and, and_self, or_true, true_or, or_false, false_or, reduceIte, iff_self, Int32.add_zero, y_10, Classical.not_not]
      exact key
end
