/-! how the class reads a text: operands, lines, the whole -/
section
variable {t : Nat → Nat} {N : Nat} {xs : Nat → Int32}
theorem cpo_open {w a o : Nat} {wr : Bool} {c : List Int32} {I I2 : sm_I} {v : Int32} (h : cpo w a wr c (sm_uI I 31 5 v) I2) (ho : I 31 5 = nI o) : cpo w a wr c I (sm_uI I2 31 5 (nI o)) := by
  obtain ⟨f1, f2, f3, f4, f5, f6⟩ := h
  refine ⟨fun x b hx => by rw [uI_q _ _ (by omega), f1 x b hx, uI_q _ _ (by omega)], by rw [uI_o _ _ (by omega), f2, uI_o _ _ (by omega)], by rw [uI_o _ _ (by omega), f3], by rw [uI_s, ho], fun hw => by rw [uI_o _ _ (by omega), f5 hw], fun hw => ?_⟩
  obtain ⟨k1, k2, k3, k4⟩ := f6 hw
  exact ⟨by rw [uI_o _ _ (by omega), k1], by rw [uI_o _ _ (by omega), k2], fun j hj => by rw [uI_q _ _ (by omega), k3 j hj, uI_q _ _ (by omega)], fun j hj => by rw [uI_q _ _ (by omega), k4 j hj]⟩
theorem cpo_w1 {w a : Nat} {c : List Int32} {I I2 : sm_I} (h : cpo w a true c I I2) : cpo w a true c I (sm_uI I2 31 6 1) := by
  have e : sm_uI I2 31 6 1 = I2 := by
    funext x b
    rw [uI_at]
    by_cases hx : x = 31 ∧ b = 6
    · rw [if_pos hx, hx.1, hx.2, h.2.2.2.2.1 rfl]
    · rw [if_neg hx]
  rw [e]
  exact h
theorem uI_id {I : sm_I} {q k : Nat} {v : Int32} (h : I q k = v) : sm_uI I q k v = I := by
  funext x b
  rw [uI_at]
  by_cases hx : x = q ∧ b = k
  · rw [if_pos hx, hx.1, hx.2, h]
  · rw [if_neg hx]
theorem c_op_pd (r : Nat) (d n : Nat) (J : sm_J) (K : Option Value → sm_H → Prop) (I : sm_I) (a w : Nat) (h1 : iv_ro xs I) (h2 : ctp t N I) (h3 : a ≤ N) (h4 : w ≤ 2 * a + 2) (h5 : I 31 4 = nI a) (h7 : I 31 1 = nI w) (h8 : I 31 6 = 0) (hO : ¬ (a < N ∧ isO (t a) = true)) (hK : ∀ I', cpo w (po t N r a).1 (po t N r a).2.1 (po t N r a).2.2.1 I I' → K none (sm_SH n, I', J)) : sm_Ok (d + (16 + 8 * r)) 36 0 [.ref 31, .null, .null] [] (sm_SH n, I, J) K := by
  have hN := h2.1
  have sk7 := fun d K => c_skip h1 h2 d n J K (i := 7) (a := a) (by decide) h3 h5 h8
  have sk8 := fun d K => c_skip h1 h2 d n J K (i := 8) (a := a) (by decide) h3 h5 h8
  simp only [Nat.reduceAdd] at sk7 sk8
  have t7 : ∀ v, tx 7 v = isO v := fun v => rfl
  have ep : po t N r a = pd t N a := by
    match r with
    | 0 => unfold po; simp only [if_neg hO]
    | r + 1 => unfold po; simp only [if_neg hO]
  rw [ep] at hK
  unfold pd at hK
  have hd0 : d + (16 + 8 * r) = d + (9 + 8 * r) + 7 := by omega
  rw [hd0]
  rw [z36_0]
  simp only [z36_1, z36_3, z36_6, z36_7, z36_8, z36_11, z36_12, z36_13, z36_16, z36_17, z36_18, z36_20, z36_23, z36_24, z36_25, z36_28, z36_29, z36_32, z36_34, z36_35, z36_36, z36_39, z36_40, z36_43, z36_44, z36_45, z36_48, sm_cti, sm_ctr, sm_ctn, sm_nbi, Option.toList_some, Option.toList_none, List.cons_append, List.nil_append, ne_eq, reduceCtorEq, not_false_eq_true, Nat.reduceLeDiff, rc31, sk7, t7, if_neg hO, sk8, show ∀ v, (tx 8 v = true) = (nmi v < 6) from fun v => by simp [tx], if_true, if_false, not_true_eq_false, not_false_eq_true, and_true, true_and, and_false, false_and, and_self, or_true, true_or, or_false, false_or, reduceIte, iff_self, Int32.add_zero, y_10, Classical.not_not]
  by_cases hn : a < N ∧ nmi (t a) < 6
  · have hlt := (h2.2.2 a hn.1).1
    rw [if_pos hn] at hK ⊢
    have hne : ¬ nI (t a) = 0 := nI_ne0 (by
      rcases Nat.eq_zero_or_pos (t a) with z | z
      · have := hn.2
        rw [z] at this
        exact absurd this (by decide)
      · exact z) (by omega)
    have roA : iv_ro xs (sm_uI I 31 4 (nI (a + 1))) := iv_ro_f h1 (fun x b hx => by rw [uI_q _ _ (by omega)])
    have k23 : sm_kc (12 + 11) = (4, 6) := kc23
    have io := fun d K => y_indexOf d n (sm_uI I 31 4 (nI (a + 1))) J K (q := 12) (by decide) (by decide) k23 (by decide) (by decide) hlt
    rw [show 12 + 11 = 8 + 15 from rfl, ro_txt roA (by decide), tx_nm _ hlt hn.2] at io
    have e256 : (256 : Int32) + nI (nmi (t a)) = nI (256 + nmi (t a)) := nI_add 256 _
    have v1 : sm_uI I 31 4 (nI (a + 1)) 31 6 = 0 := by rw [uI_o _ _ (by omega), h8]
    have v2 : sm_uI I 31 4 (nI (a + 1)) 31 1 = nI w := by rw [uI_o _ _ (by omega), h7]
    simp only [z36_1, z36_3, z36_6, z36_7, z36_8, z36_11, z36_12, z36_13, z36_16, z36_17, z36_18, z36_20, z36_23, z36_24, z36_25, z36_28, z36_29, z36_32, z36_34, z36_35, z36_36, z36_39, z36_40, z36_43, z36_44, z36_45, z36_48, sm_cti, sm_ctr, sm_ctn, sm_nbi, Option.toList_some, Option.toList_none, List.cons_append, List.nil_append, ne_eq, reduceCtorEq, not_false_eq_true, Nat.reduceLeDiff, rc31, hne, y_b255 _ hlt, sm_rc_str (show 4 ≤ 12 by decide) (show 12 < 15 by decide), io, e256, c_emit _ _ _ _ (show w < 256 by omega) v2 v1, if_true, if_false, not_true_eq_false, not_false_eq_true, and_true, true_and, and_false, false_and, and_self, or_true, true_or, or_false, false_or, reduceIte, iff_self, Int32.add_zero, y_10, Classical.not_not]
    refine hK _ ?_
    exact cpo_tr (cpo_at (a := a + 1) h8 h7) rfl (cpo_em (uI_s _ _ _ _) v1 _)
  · rw [if_neg hn] at hK ⊢
    rw [show d + (9 + 8 * r) + 6 = d + (8 + 8 * r) + 7 by omega]
    refine c_number h1 h2 h8 _ n J _ h3 h4 h5 h7 (fun I' hc => ?_)
    simp only [z36_1, z36_3, z36_6, z36_7, z36_8, z36_11, z36_12, z36_13, z36_16, z36_17, z36_18, z36_20, z36_23, z36_24, z36_25, z36_28, z36_29, z36_32, z36_34, z36_35, z36_36, z36_39, z36_40, z36_43, z36_44, z36_45, z36_48, sm_cti, sm_ctr, sm_ctn, sm_nbi, Option.toList_some, Option.toList_none, List.cons_append, List.nil_append, ne_eq, reduceCtorEq, not_false_eq_true, Nat.reduceLeDiff, if_true, if_false, not_true_eq_false, not_false_eq_true, and_true, true_and, and_false, false_and, and_self, or_true, true_or, or_false, false_or, reduceIte, iff_self, Int32.add_zero, y_10, Classical.not_not]
    refine hK _ ?_
    by_cases he : (pn t N 4 a 0).1 = a
    · rw [if_pos he] at hc ⊢
      exact hc
    · rw [if_neg he] at hc ⊢
      exact hc
theorem c_op_0 (d n : Nat) (J : sm_J) (K : Option Value → sm_H → Prop) (I : sm_I) (a w : Nat) (h1 : iv_ro xs I) (h2 : ctp t N I) (h3 : a ≤ N) (h4 : w ≤ 2 * a + 2) (h5 : I 31 4 = nI a) (h6 : I 31 5 = nI (6 - 0)) (h7 : I 31 1 = nI w) (h8 : I 31 6 = 0) (hO : a < N ∧ isO (t a) = true) (hK : ∀ I', cpo w (po t N 0 a).1 (po t N 0 a).2.1 (po t N 0 a).2.2.1 I I' → K none (sm_SH n, I', J)) : sm_Ok (d + (16 + 8 * 0)) 36 0 [.ref 31, .null, .null] [] (sm_SH n, I, J) K := by
  have hN := h2.1
  have sk7 := fun d K => c_skip h1 h2 d n J K (i := 7) (a := a) (by decide) h3 h5 h8
  have sk8 := fun d K => c_skip h1 h2 d n J K (i := 8) (a := a) (by decide) h3 h5 h8
  simp only [Nat.reduceAdd] at sk7 sk8
  have t7 : ∀ v, tx 7 v = isO v := fun v => rfl
  have hlt := (h2.2.2 a hO.1).1
  have hne : ¬ nI (t a) = 0 := nI_ne0 (by
    rcases Nat.eq_zero_or_pos (t a) with z | z
    · have := hO.2
      rw [z] at this
      exact absurd this (by decide)
    · exact z) (by omega)
  have c0 := cpo_at (a := a + 1) h8 h7
  have ep : po t N 0 a = (a, true, [], fun _ => 0) := by unfold po; simp only [if_pos hO]
  rw [ep] at hK
  have e6 : ¬ nI (6 - 0) < 6 := by decide
  have o1 : sm_uI I 31 4 (nI (a + 1)) 31 5 = nI (6 - 0) := by rw [uI_o _ _ (by omega), h6]
  have o2 : sm_uI I 31 4 (nI (a + 1)) 31 4 = nI (a + 1) := uI_s _ _ _ _
  have e1 : (1 : Int32) = 0 ∨ (1 : Int32) = 1 := Or.inr rfl
  rw [z36_0]
  simp only [z36_1, z36_3, z36_6, z36_7, z36_8, z36_11, z36_12, z36_13, z36_16, z36_17, z36_18, z36_20, z36_23, z36_24, z36_25, z36_28, z36_29, z36_32, z36_34, z36_35, z36_36, z36_39, z36_40, z36_43, z36_44, z36_45, z36_48, sm_cti, sm_ctr, sm_ctn, sm_nbi, Option.toList_some, Option.toList_none, List.cons_append, List.nil_append, ne_eq, reduceCtorEq, not_false_eq_true, Nat.reduceLeDiff, rc31, sk7, t7, if_pos hO, hne, if_true, if_false, not_true_eq_false, not_false_eq_true, and_true, true_and, and_false, false_and, and_self, or_true, true_or, or_false, false_or, reduceIte, iff_self, Int32.add_zero, y_10, Classical.not_not]
  simp only [z36_1, z36_3, z36_6, z36_7, z36_8, z36_11, z36_12, z36_13, z36_16, z36_17, z36_18, z36_20, z36_23, z36_24, z36_25, z36_28, z36_29, z36_32, z36_34, z36_35, z36_36, z36_39, z36_40, z36_43, z36_44, z36_45, z36_48, z37_0, z37_1, z37_4, z37_6, z37_9, z37_10, z37_11, z37_14, z37_15, z37_16, z37_19, z37_20, z37_21, z37_24, z37_25, z37_26, z37_27, z37_30, z37_31, z37_32, z37_35, z37_36, z37_38, z37_41, z37_42, z37_43, z37_46, z37_47, z37_48, z37_51, z37_54, z37_55, z37_57, z37_60, z37_63, z37_64, z37_67, z37_68, z37_71, z37_74, z37_75, z37_78, z37_79, z37_80, z37_82, z37_85, z37_87, z37_90, z37_92, z37_95, z37_96, z37_97, z37_100, z37_101, z37_102, z37_105, sm_cti, sm_ctr, sm_ctn, sm_nbi, Option.toList_some, Option.toList_none, List.cons_append, List.nil_append, ne_eq, reduceCtorEq, not_false_eq_true, Nat.reduceLeDiff, kc31, rc31, o1, o2, e6, e1, nI_pred, uI_uI, hne, if_true, if_false, not_true_eq_false, not_false_eq_true, and_true, true_and, and_false, false_and, and_self, or_true, true_or, or_false, false_or, reduceIte, iff_self, Int32.add_zero, y_10, Classical.not_not]
  refine hK _ ?_
  exact cpo_cw (cpo_tr (cpo_at (a := a) h8 h7) rfl (cpo_wr [] (uI_s _ _ _ _)))
theorem c_op_s {r : Nat} (hr : r + 1 ≤ 6) (ih : cop t N xs (16 + 8 * r) (6 - r) (po t N r)) (d n : Nat) (J : sm_J) (K : Option Value → sm_H → Prop) (I : sm_I) (a w : Nat) (h1 : iv_ro xs I) (h2 : ctp t N I) (h3 : a ≤ N) (h4 : w ≤ 2 * a + 2) (h5 : I 31 4 = nI a) (h6 : I 31 5 = nI (6 - (r + 1))) (h7 : I 31 1 = nI w) (h8 : I 31 6 = 0) (hO : a < N ∧ isO (t a) = true) (hK : ∀ I', cpo w (po t N (r + 1) a).1 (po t N (r + 1) a).2.1 (po t N (r + 1) a).2.2.1 I I' → K none (sm_SH n, I', J)) : sm_Ok (d + (16 + 8 * (r + 1))) 36 0 [.ref 31, .null, .null] [] (sm_SH n, I, J) K := by
  have hN := h2.1
  have sk7 := fun d K => c_skip h1 h2 d n J K (i := 7) (a := a) (by decide) h3 h5 h8
  have sk8 := fun d K => c_skip h1 h2 d n J K (i := 8) (a := a) (by decide) h3 h5 h8
  simp only [Nat.reduceAdd] at sk7 sk8
  have t7 : ∀ v, tx 7 v = isO v := fun v => rfl
  have hlt := (h2.2.2 a hO.1).1
  have hne : ¬ nI (t a) = 0 := nI_ne0 (by
    rcases Nat.eq_zero_or_pos (t a) with z | z
    · have := hO.2
      rw [z] at this
      exact absurd this (by decide)
    · exact z) (by omega)
  have c0 := cpo_at (a := a + 1) h8 h7
  have e6 : nI (6 - (r + 1)) < 6 := nI_lt (b := 6) (by omega) (by decide)
  have o1 : sm_uI I 31 4 (nI (a + 1)) 31 5 = nI (6 - (r + 1)) := by rw [uI_o _ _ (by omega), h6]
  have eo : nI (6 - (r + 1)) + 1 = nI (6 - r) := by rw [nI_1]; congr 1; omega
  have eo2 : nI (6 - r) - 1 = nI (6 - (r + 1)) := by rw [show 6 - r = 6 - (r + 1) + 1 by omega, nI_pred]
  have e40 : (nI (t a) = 40) = (t a = 40) := propext (nI_eq (b := 40) (by omega) (by decide))
  have e33 : (nI (t a) = 33) = (t a = 33) := propext (nI_eq (b := 33) (by omega) (by decide))
  have roA : iv_ro xs (sm_uI (sm_uI I 31 4 (nI (a + 1))) 31 5 (nI (6 - r))) := iv_ro_f h1 (fun x b hx => by rw [uI_q _ _ (by omega), uI_q _ _ (by omega)])
  have tpA : ctp t N (sm_uI (sm_uI I 31 4 (nI (a + 1))) 31 5 (nI (6 - r))) := ctp_f h2 (by rw [uI_o _ _ (by omega), uI_o _ _ (by omega)]) (fun b => by rw [uI_q _ _ (by omega), uI_q _ _ (by omega)])
  have a4 : sm_uI (sm_uI I 31 4 (nI (a + 1))) 31 5 (nI (6 - r)) 31 4 = nI (a + 1) := by rw [uI_o _ _ (by omega), uI_s]
  have a5 : sm_uI (sm_uI I 31 4 (nI (a + 1))) 31 5 (nI (6 - r)) 31 5 = nI (6 - r) := uI_s _ _ _ _
  have a1 : sm_uI (sm_uI I 31 4 (nI (a + 1))) 31 5 (nI (6 - r)) 31 1 = nI w := by rw [uI_o _ _ (by omega), uI_o _ _ (by omega), h7]
  have a6 : sm_uI (sm_uI I 31 4 (nI (a + 1))) 31 5 (nI (6 - r)) 31 6 = 0 := by rw [uI_o _ _ (by omega), uI_o _ _ (by omega), h8]
  rw [z36_0, show d + (16 + 8 * (r + 1)) = d + (10 + 8 * r) + 14 by omega]
  simp only [z36_1, z36_3, z36_6, z36_7, z36_8, z36_11, z36_12, z36_13, z36_16, z36_17, z36_18, z36_20, z36_23, z36_24, z36_25, z36_28, z36_29, z36_32, z36_34, z36_35, z36_36, z36_39, z36_40, z36_43, z36_44, z36_45, z36_48, sm_cti, sm_ctr, sm_ctn, sm_nbi, Option.toList_some, Option.toList_none, List.cons_append, List.nil_append, ne_eq, reduceCtorEq, not_false_eq_true, Nat.reduceLeDiff, rc31, sk7, t7, if_pos hO, hne, if_true, if_false, not_true_eq_false, not_false_eq_true, and_true, true_and, and_false, false_and, and_self, or_true, true_or, or_false, false_or, reduceIte, iff_self, Int32.add_zero, y_10, Classical.not_not]
  by_cases h40 : t a = 40
  · have ep : po t N (r + 1) a = (if (pv t N (po t N r) 5 (a + 1)).2.1 = false ∧ (pv t N (po t N r) 5 (a + 1)).1 < N ∧ t (pv t N (po t N r) 5 (a + 1)).1 = 41 then ((pv t N (po t N r) 5 (a + 1)).1 + 1, false, (pv t N (po t N r) 5 (a + 1)).2.2.1, (pv t N (po t N r) 5 (a + 1)).2.2.2) else ((pv t N (po t N r) 5 (a + 1)).1, true, [], fun _ => 0)) := by
      conv => lhs; unfold po
      simp only [if_pos hO, if_pos h40]
    rw [ep] at hK
    have hj := c_levels (dd := 10 + 8 * r) (by rw [show 10 + 8 * r + 6 = 16 + 8 * r by omega]; exact ih) (po_gp t N r) 5 (by decide)
    have e00 : nI (5 - 5) = 0 := rfl
    unfold cjt at hj
    rw [e00] at hj
    simp only [z36_1, z36_3, z36_6, z36_7, z36_8, z36_11, z36_12, z36_13, z36_16, z36_17, z36_18, z36_20, z36_23, z36_24, z36_25, z36_28, z36_29, z36_32, z36_34, z36_35, z36_36, z36_39, z36_40, z36_43, z36_44, z36_45, z36_48, z37_0, z37_1, z37_4, z37_6, z37_9, z37_10, z37_11, z37_14, z37_15, z37_16, z37_19, z37_20, z37_21, z37_24, z37_25, z37_26, z37_27, z37_30, z37_31, z37_32, z37_35, z37_36, z37_38, z37_41, z37_42, z37_43, z37_46, z37_47, z37_48, z37_51, z37_54, z37_55, z37_57, z37_60, z37_63, z37_64, z37_67, z37_68, z37_71, z37_74, z37_75, z37_78, z37_79, z37_80, z37_82, z37_85, z37_87, z37_90, z37_92, z37_95, z37_96, z37_97, z37_100, z37_101, z37_102, z37_105, sm_cti, sm_ctr, sm_ctn, sm_nbi, Option.toList_some, Option.toList_none, List.cons_append, List.nil_append, ne_eq, reduceCtorEq, not_false_eq_true, Nat.reduceLeDiff, kc31, rc31, o1, e6, eo, hne, e40, h40, if_true, if_false, not_true_eq_false, not_false_eq_true, and_true, true_and, and_false, false_and, and_self, or_true, true_or, or_false, false_or, reduceIte, iff_self, Int32.add_zero, y_10, Classical.not_not]
    refine hj d n J _ _ (a + 1) w roA tpA (by omega) (by omega) a4 a5 a1 a6 (fun I2 c2 => ?_)
    have ro2 := cpo_ro c2 roA
    have tp2 := cpo_tp c2 tpA
    obtain ⟨g1, g2, g3⟩ := pv_gp t N (po_gp t N r) 5 (a + 1) (by omega)
    cases hwr : (pv t N (po t N r) 5 (a + 1)).2.1 with
    | true =>
      rw [hwr] at c2
      rw [hwr, if_neg (fun z => by cases z.1)] at hK
      have w2 := c2.2.2.2.2.1 rfl
      have e1 : (1 : Int32) = 0 ∨ (1 : Int32) = 1 := Or.inr rfl
      have o5 : sm_uI I2 31 6 1 31 5 = nI (6 - r) := by rw [uI_o _ _ (by omega), c2.2.2.2.1, a5]
      simp only [z36_1, z36_3, z36_6, z36_7, z36_8, z36_11, z36_12, z36_13, z36_16, z36_17, z36_18, z36_20, z36_23, z36_24, z36_25, z36_28, z36_29, z36_32, z36_34, z36_35, z36_36, z36_39, z36_40, z36_43, z36_44, z36_45, z36_48, z37_0, z37_1, z37_4, z37_6, z37_9, z37_10, z37_11, z37_14, z37_15, z37_16, z37_19, z37_20, z37_21, z37_24, z37_25, z37_26, z37_27, z37_30, z37_31, z37_32, z37_35, z37_36, z37_38, z37_41, z37_42, z37_43, z37_46, z37_47, z37_48, z37_51, z37_54, z37_55, z37_57, z37_60, z37_63, z37_64, z37_67, z37_68, z37_71, z37_74, z37_75, z37_78, z37_79, z37_80, z37_82, z37_85, z37_87, z37_90, z37_92, z37_95, z37_96, z37_97, z37_100, z37_101, z37_102, z37_105, sm_cti, sm_ctr, sm_ctn, sm_nbi, Option.toList_some, Option.toList_none, List.cons_append, List.nil_append, ne_eq, reduceCtorEq, not_false_eq_true, Nat.reduceLeDiff, kc31, rc31, w2, e1, o5, eo2, if_true, if_false, not_true_eq_false, not_false_eq_true, and_true, true_and, and_false, false_and, and_self, or_true, true_or, or_false, false_or, reduceIte, iff_self, Int32.add_zero, y_10, Classical.not_not]
      refine hK _ ?_
      exact cpo_cw (cpo_tr c0 rfl (cpo_open (cpo_w1 c2) o1))
    | false =>
      rw [hwr] at c2
      obtain ⟨v1, v2, v3, v4⟩ := c2.2.2.2.2.2 rfl
      have sk9 := fun d K => c_skip ro2 tp2 d n J K (i := 9) (a := (pv t N (po t N r) 5 (a + 1)).1) (by decide) g2 c2.2.2.1 v1
      simp only [Nat.reduceAdd, show ∀ v, (tx 9 v = true) = (v = 41) from fun v => by simp [tx]] at sk9
      simp only [z36_1, z36_3, z36_6, z36_7, z36_8, z36_11, z36_12, z36_13, z36_16, z36_17, z36_18, z36_20, z36_23, z36_24, z36_25, z36_28, z36_29, z36_32, z36_34, z36_35, z36_36, z36_39, z36_40, z36_43, z36_44, z36_45, z36_48, z37_0, z37_1, z37_4, z37_6, z37_9, z37_10, z37_11, z37_14, z37_15, z37_16, z37_19, z37_20, z37_21, z37_24, z37_25, z37_26, z37_27, z37_30, z37_31, z37_32, z37_35, z37_36, z37_38, z37_41, z37_42, z37_43, z37_46, z37_47, z37_48, z37_51, z37_54, z37_55, z37_57, z37_60, z37_63, z37_64, z37_67, z37_68, z37_71, z37_74, z37_75, z37_78, z37_79, z37_80, z37_82, z37_85, z37_87, z37_90, z37_92, z37_95, z37_96, z37_97, z37_100, z37_101, z37_102, z37_105, sm_cti, sm_ctr, sm_ctn, sm_nbi, Option.toList_some, Option.toList_none, List.cons_append, List.nil_append, ne_eq, reduceCtorEq, not_false_eq_true, Nat.reduceLeDiff, kc31, rc31, v1, sk9, if_true, if_false, not_true_eq_false, not_false_eq_true, and_true, true_and, and_false, false_and, and_self, or_true, true_or, or_false, false_or, reduceIte, iff_self, Int32.add_zero, y_10, Classical.not_not]
      by_cases hd : (pv t N (po t N r) 5 (a + 1)).1 < N ∧ t (pv t N (po t N r) 5 (a + 1)).1 = 41
      · rw [if_pos hd]
        rw [hwr, if_pos ⟨rfl, hd⟩] at hK
        have h41 : ¬ nI (t (pv t N (po t N r) 5 (a + 1)).1) = 0 := by rw [hd.2]; decide
        have e1 : (0 : Int32) = 0 ∨ (0 : Int32) = 1 := Or.inl rfl
        have o5 : sm_uI (sm_uI I2 31 4 (nI ((pv t N (po t N r) 5 (a + 1)).1 + 1))) 31 6 0 31 5 = nI (6 - r) := by rw [uI_o _ _ (by omega), uI_o _ _ (by omega), c2.2.2.2.1, a5]
        have i6 : sm_uI (sm_uI I2 31 4 (nI ((pv t N (po t N r) 5 (a + 1)).1 + 1))) 31 6 0 = sm_uI I2 31 4 (nI ((pv t N (po t N r) 5 (a + 1)).1 + 1)) := uI_id (by rw [uI_o _ _ (by omega), v1])
        simp only [z36_1, z36_3, z36_6, z36_7, z36_8, z36_11, z36_12, z36_13, z36_16, z36_17, z36_18, z36_20, z36_23, z36_24, z36_25, z36_28, z36_29, z36_32, z36_34, z36_35, z36_36, z36_39, z36_40, z36_43, z36_44, z36_45, z36_48, z37_0, z37_1, z37_4, z37_6, z37_9, z37_10, z37_11, z37_14, z37_15, z37_16, z37_19, z37_20, z37_21, z37_24, z37_25, z37_26, z37_27, z37_30, z37_31, z37_32, z37_35, z37_36, z37_38, z37_41, z37_42, z37_43, z37_46, z37_47, z37_48, z37_51, z37_54, z37_55, z37_57, z37_60, z37_63, z37_64, z37_67, z37_68, z37_71, z37_74, z37_75, z37_78, z37_79, z37_80, z37_82, z37_85, z37_87, z37_90, z37_92, z37_95, z37_96, z37_97, z37_100, z37_101, z37_102, z37_105, sm_cti, sm_ctr, sm_ctn, sm_nbi, Option.toList_some, Option.toList_none, List.cons_append, List.nil_append, ne_eq, reduceCtorEq, not_false_eq_true, Nat.reduceLeDiff, kc31, rc31, h41, e1, o5, eo2, i6, if_true, if_false, not_true_eq_false, not_false_eq_true, and_true, true_and, and_false, false_and, and_self, or_true, true_or, or_false, false_or, reduceIte, iff_self, Int32.add_zero, y_10, Classical.not_not]
        refine hK _ ?_
        have c3 := cpo_tr c2 rfl (cpo_at (a := (pv t N (po t N r) 5 (a + 1)).1 + 1) v1 v2)
        rw [List.append_nil] at c3
        exact cpo_tr c0 rfl (cpo_open c3 o1)
      · rw [if_neg hd]
        rw [hwr, if_neg (fun z => hd z.2)] at hK
        have e1 : (1 : Int32) = 0 ∨ (1 : Int32) = 1 := Or.inr rfl
        have o5 : sm_uI I2 31 6 1 31 5 = nI (6 - r) := by rw [uI_o _ _ (by omega), c2.2.2.2.1, a5]
        simp only [z36_1, z36_3, z36_6, z36_7, z36_8, z36_11, z36_12, z36_13, z36_16, z36_17, z36_18, z36_20, z36_23, z36_24, z36_25, z36_28, z36_29, z36_32, z36_34, z36_35, z36_36, z36_39, z36_40, z36_43, z36_44, z36_45, z36_48, z37_0, z37_1, z37_4, z37_6, z37_9, z37_10, z37_11, z37_14, z37_15, z37_16, z37_19, z37_20, z37_21, z37_24, z37_25, z37_26, z37_27, z37_30, z37_31, z37_32, z37_35, z37_36, z37_38, z37_41, z37_42, z37_43, z37_46, z37_47, z37_48, z37_51, z37_54, z37_55, z37_57, z37_60, z37_63, z37_64, z37_67, z37_68, z37_71, z37_74, z37_75, z37_78, z37_79, z37_80, z37_82, z37_85, z37_87, z37_90, z37_92, z37_95, z37_96, z37_97, z37_100, z37_101, z37_102, z37_105, sm_cti, sm_ctr, sm_ctn, sm_nbi, Option.toList_some, Option.toList_none, List.cons_append, List.nil_append, ne_eq, reduceCtorEq, not_false_eq_true, Nat.reduceLeDiff, kc31, rc31, e1, o5, eo2, if_true, if_false, not_true_eq_false, not_false_eq_true, and_true, true_and, and_false, false_and, and_self, or_true, true_or, or_false, false_or, reduceIte, iff_self, Int32.add_zero, y_10, Classical.not_not]
        refine hK _ ?_
        exact cpo_cw (cpo_tr c0 rfl (cpo_open (cpo_tr c2 rfl (cpo_wr [] c2.2.2.1)) o1))
  · have ep : po t N (r + 1) a = ((po t N r (a + 1)).1, (po t N r (a + 1)).2.1, (po t N r (a + 1)).2.2.1 ++ [if t a = 33 then 33 else 126], fun g => ch (t a) ((po t N r (a + 1)).2.2.2 g)) := by
      conv => lhs; unfold po
      simp only [if_pos hO, if_neg h40]
    rw [ep] at hK
    have hj := ih
    unfold cop at hj
    simp only [z36_1, z36_3, z36_6, z36_7, z36_8, z36_11, z36_12, z36_13, z36_16, z36_17, z36_18, z36_20, z36_23, z36_24, z36_25, z36_28, z36_29, z36_32, z36_34, z36_35, z36_36, z36_39, z36_40, z36_43, z36_44, z36_45, z36_48, z37_0, z37_1, z37_4, z37_6, z37_9, z37_10, z37_11, z37_14, z37_15, z37_16, z37_19, z37_20, z37_21, z37_24, z37_25, z37_26, z37_27, z37_30, z37_31, z37_32, z37_35, z37_36, z37_38, z37_41, z37_42, z37_43, z37_46, z37_47, z37_48, z37_51, z37_54, z37_55, z37_57, z37_60, z37_63, z37_64, z37_67, z37_68, z37_71, z37_74, z37_75, z37_78, z37_79, z37_80, z37_82, z37_85, z37_87, z37_90, z37_92, z37_95, z37_96, z37_97, z37_100, z37_101, z37_102, z37_105, sm_cti, sm_ctr, sm_ctn, sm_nbi, Option.toList_some, Option.toList_none, List.cons_append, List.nil_append, ne_eq, reduceCtorEq, not_false_eq_true, Nat.reduceLeDiff, kc31, rc31, o1, e6, eo, hne, e40, h40, if_true, if_false, not_true_eq_false, not_false_eq_true, and_true, true_and, and_false, false_and, and_self, or_true, true_or, or_false, false_or, reduceIte, iff_self, Int32.add_zero, y_10, Classical.not_not]
    rw [show d + (10 + 8 * r) + 12 = d + 6 + (16 + 8 * r) by omega]
    refine hj (d + 6) n J _ _ (a + 1) w roA tpA (by omega) (by omega) a4 a5 a1 a6 (fun I2 c2 => ?_)
    obtain ⟨g1, g2, g3⟩ := po_gp t N r (a + 1) (by omega)
    cases hwr : (po t N r (a + 1)).2.1 with
    | true =>
      rw [hwr] at c2 hK
      have w2 := c2.2.2.2.2.1 rfl
      have o5 : I2 31 5 = nI (6 - r) := by rw [c2.2.2.2.1, a5]
      simp only [z36_1, z36_3, z36_6, z36_7, z36_8, z36_11, z36_12, z36_13, z36_16, z36_17, z36_18, z36_20, z36_23, z36_24, z36_25, z36_28, z36_29, z36_32, z36_34, z36_35, z36_36, z36_39, z36_40, z36_43, z36_44, z36_45, z36_48, z37_0, z37_1, z37_4, z37_6, z37_9, z37_10, z37_11, z37_14, z37_15, z37_16, z37_19, z37_20, z37_21, z37_24, z37_25, z37_26, z37_27, z37_30, z37_31, z37_32, z37_35, z37_36, z37_38, z37_41, z37_42, z37_43, z37_46, z37_47, z37_48, z37_51, z37_54, z37_55, z37_57, z37_60, z37_63, z37_64, z37_67, z37_68, z37_71, z37_74, z37_75, z37_78, z37_79, z37_80, z37_82, z37_85, z37_87, z37_90, z37_92, z37_95, z37_96, z37_97, z37_100, z37_101, z37_102, z37_105, sm_cti, sm_ctr, sm_ctn, sm_nbi, Option.toList_some, Option.toList_none, List.cons_append, List.nil_append, ne_eq, reduceCtorEq, not_false_eq_true, Nat.reduceLeDiff, kc31, rc31, e33, if_true, if_false, not_true_eq_false, not_false_eq_true, and_true, true_and, and_false, false_and, and_self, or_true, true_or, or_false, false_or, reduceIte, iff_self, Int32.add_zero, y_10, Classical.not_not]
      by_cases h33 : t a = 33
      · simp only [h33, z36_1, z36_3, z36_6, z36_7, z36_8, z36_11, z36_12, z36_13, z36_16, z36_17, z36_18, z36_20, z36_23, z36_24, z36_25, z36_28, z36_29, z36_32, z36_34, z36_35, z36_36, z36_39, z36_40, z36_43, z36_44, z36_45, z36_48, z37_0, z37_1, z37_4, z37_6, z37_9, z37_10, z37_11, z37_14, z37_15, z37_16, z37_19, z37_20, z37_21, z37_24, z37_25, z37_26, z37_27, z37_30, z37_31, z37_32, z37_35, z37_36, z37_38, z37_41, z37_42, z37_43, z37_46, z37_47, z37_48, z37_51, z37_54, z37_55, z37_57, z37_60, z37_63, z37_64, z37_67, z37_68, z37_71, z37_74, z37_75, z37_78, z37_79, z37_80, z37_82, z37_85, z37_87, z37_90, z37_92, z37_95, z37_96, z37_97, z37_100, z37_101, z37_102, z37_105, sm_cti, sm_ctr, sm_ctn, sm_nbi, Option.toList_some, Option.toList_none, List.cons_append, List.nil_append, ne_eq, reduceCtorEq, not_false_eq_true, Nat.reduceLeDiff, kc31, rc31, c_emitW _ _ _ _ w2, o5, eo2, if_true, if_false, not_true_eq_false, not_false_eq_true, and_true, true_and, and_false, false_and, and_self, or_true, true_or, or_false, false_or, reduceIte, iff_self, Int32.add_zero, y_10, Classical.not_not]
        refine hK _ ?_
        exact cpo_cw (cpo_tr c0 rfl (cpo_open c2 o1))
      · simp only [h33, z36_1, z36_3, z36_6, z36_7, z36_8, z36_11, z36_12, z36_13, z36_16, z36_17, z36_18, z36_20, z36_23, z36_24, z36_25, z36_28, z36_29, z36_32, z36_34, z36_35, z36_36, z36_39, z36_40, z36_43, z36_44, z36_45, z36_48, z37_0, z37_1, z37_4, z37_6, z37_9, z37_10, z37_11, z37_14, z37_15, z37_16, z37_19, z37_20, z37_21, z37_24, z37_25, z37_26, z37_27, z37_30, z37_31, z37_32, z37_35, z37_36, z37_38, z37_41, z37_42, z37_43, z37_46, z37_47, z37_48, z37_51, z37_54, z37_55, z37_57, z37_60, z37_63, z37_64, z37_67, z37_68, z37_71, z37_74, z37_75, z37_78, z37_79, z37_80, z37_82, z37_85, z37_87, z37_90, z37_92, z37_95, z37_96, z37_97, z37_100, z37_101, z37_102, z37_105, sm_cti, sm_ctr, sm_ctn, sm_nbi, Option.toList_some, Option.toList_none, List.cons_append, List.nil_append, ne_eq, reduceCtorEq, not_false_eq_true, Nat.reduceLeDiff, kc31, rc31, c_emitW _ _ _ _ w2, o5, eo2, if_true, if_false, not_true_eq_false, not_false_eq_true, and_true, true_and, and_false, false_and, and_self, or_true, true_or, or_false, false_or, reduceIte, iff_self, Int32.add_zero, y_10, Classical.not_not]
        refine hK _ ?_
        exact cpo_cw (cpo_tr c0 rfl (cpo_open c2 o1))
    | false =>
      rw [hwr] at c2 hK
      obtain ⟨v1, v2, v3, v4⟩ := c2.2.2.2.2.2 rfl
      obtain ⟨g4, g5⟩ := g3 hwr
      have hem := fun v d K => c_emit (I := I2) d n J K (w := w + (po t N r (a + 1)).2.2.1.length) (by omega) v2 v1 v
      have o5 : ∀ v, sm_uI (sm_uI I2 32 (w + (po t N r (a + 1)).2.2.1.length) v) 31 1 (nI (w + (po t N r (a + 1)).2.2.1.length + 1)) 31 5 = nI (6 - r) := fun v => by rw [uI_o _ _ (by omega), uI_q _ _ (by omega), c2.2.2.2.1, a5]
      simp only [z36_1, z36_3, z36_6, z36_7, z36_8, z36_11, z36_12, z36_13, z36_16, z36_17, z36_18, z36_20, z36_23, z36_24, z36_25, z36_28, z36_29, z36_32, z36_34, z36_35, z36_36, z36_39, z36_40, z36_43, z36_44, z36_45, z36_48, z37_0, z37_1, z37_4, z37_6, z37_9, z37_10, z37_11, z37_14, z37_15, z37_16, z37_19, z37_20, z37_21, z37_24, z37_25, z37_26, z37_27, z37_30, z37_31, z37_32, z37_35, z37_36, z37_38, z37_41, z37_42, z37_43, z37_46, z37_47, z37_48, z37_51, z37_54, z37_55, z37_57, z37_60, z37_63, z37_64, z37_67, z37_68, z37_71, z37_74, z37_75, z37_78, z37_79, z37_80, z37_82, z37_85, z37_87, z37_90, z37_92, z37_95, z37_96, z37_97, z37_100, z37_101, z37_102, z37_105, sm_cti, sm_ctr, sm_ctn, sm_nbi, Option.toList_some, Option.toList_none, List.cons_append, List.nil_append, ne_eq, reduceCtorEq, not_false_eq_true, Nat.reduceLeDiff, kc31, rc31, e33, if_true, if_false, not_true_eq_false, not_false_eq_true, and_true, true_and, and_false, false_and, and_self, or_true, true_or, or_false, false_or, reduceIte, iff_self, Int32.add_zero, y_10, Classical.not_not]
      by_cases h33 : t a = 33
      · simp only [h33, z36_1, z36_3, z36_6, z36_7, z36_8, z36_11, z36_12, z36_13, z36_16, z36_17, z36_18, z36_20, z36_23, z36_24, z36_25, z36_28, z36_29, z36_32, z36_34, z36_35, z36_36, z36_39, z36_40, z36_43, z36_44, z36_45, z36_48, z37_0, z37_1, z37_4, z37_6, z37_9, z37_10, z37_11, z37_14, z37_15, z37_16, z37_19, z37_20, z37_21, z37_24, z37_25, z37_26, z37_27, z37_30, z37_31, z37_32, z37_35, z37_36, z37_38, z37_41, z37_42, z37_43, z37_46, z37_47, z37_48, z37_51, z37_54, z37_55, z37_57, z37_60, z37_63, z37_64, z37_67, z37_68, z37_71, z37_74, z37_75, z37_78, z37_79, z37_80, z37_82, z37_85, z37_87, z37_90, z37_92, z37_95, z37_96, z37_97, z37_100, z37_101, z37_102, z37_105, sm_cti, sm_ctr, sm_ctn, sm_nbi, Option.toList_some, Option.toList_none, List.cons_append, List.nil_append, ne_eq, reduceCtorEq, not_false_eq_true, Nat.reduceLeDiff, kc31, rc31, hem, o5, eo2, if_true, if_false, not_true_eq_false, not_false_eq_true, and_true, true_and, and_false, false_and, and_self, or_true, true_or, or_false, false_or, reduceIte, iff_self, Int32.add_zero, y_10, Classical.not_not]
        refine hK _ ?_
        rw [if_pos h33]
        have cc := cpo_tr c0 rfl (cpo_open (cpo_tr c2 rfl (cpo_em c2.2.2.1 v1 33)) o1)
        rw [List.nil_append] at cc
        exact cc
      · simp only [h33, z36_1, z36_3, z36_6, z36_7, z36_8, z36_11, z36_12, z36_13, z36_16, z36_17, z36_18, z36_20, z36_23, z36_24, z36_25, z36_28, z36_29, z36_32, z36_34, z36_35, z36_36, z36_39, z36_40, z36_43, z36_44, z36_45, z36_48, z37_0, z37_1, z37_4, z37_6, z37_9, z37_10, z37_11, z37_14, z37_15, z37_16, z37_19, z37_20, z37_21, z37_24, z37_25, z37_26, z37_27, z37_30, z37_31, z37_32, z37_35, z37_36, z37_38, z37_41, z37_42, z37_43, z37_46, z37_47, z37_48, z37_51, z37_54, z37_55, z37_57, z37_60, z37_63, z37_64, z37_67, z37_68, z37_71, z37_74, z37_75, z37_78, z37_79, z37_80, z37_82, z37_85, z37_87, z37_90, z37_92, z37_95, z37_96, z37_97, z37_100, z37_101, z37_102, z37_105, sm_cti, sm_ctr, sm_ctn, sm_nbi, Option.toList_some, Option.toList_none, List.cons_append, List.nil_append, ne_eq, reduceCtorEq, not_false_eq_true, Nat.reduceLeDiff, kc31, rc31, hem, o5, eo2, if_true, if_false, not_true_eq_false, not_false_eq_true, and_true, true_and, and_false, false_and, and_self, or_true, true_or, or_false, false_or, reduceIte, iff_self, Int32.add_zero, y_10, Classical.not_not]
        refine hK _ ?_
        rw [if_neg h33]
        have cc := cpo_tr c0 rfl (cpo_open (cpo_tr c2 rfl (cpo_em c2.2.2.1 v1 126)) o1)
        rw [List.nil_append] at cc
        exact cc
theorem c_op : ∀ r, r ≤ 6 → cop t N xs (16 + 8 * r) (6 - r) (po t N r)
  | 0, _ => by
    intro d n J K I a w h1 h2 h3 h4 h5 h6 h7 h8 hK
    by_cases hO : a < N ∧ isO (t a) = true
    · exact c_op_0 d n J K I a w h1 h2 h3 h4 h5 h6 h7 h8 hO hK
    · exact c_op_pd 0 d n J K I a w h1 h2 h3 h4 h5 h7 h8 hO hK
  | r + 1, hr => by
    intro d n J K I a w h1 h2 h3 h4 h5 h6 h7 h8 hK
    by_cases hO : a < N ∧ isO (t a) = true
    · exact c_op_s hr (c_op r (by omega)) d n J K I a w h1 h2 h3 h4 h5 h6 h7 h8 hO hK
    · exact c_op_pd (r + 1) d n J K I a w h1 h2 h3 h4 h5 h7 h8 hO hK
/-- an expression -/
theorem c_expr : cjt t N xs 76 0 0 (pe t N) := by
  have h := c_levels (dd := 58) (c_op (xs := xs) (t := t) (N := N) 6 (by decide)) (po_gp t N 6) 5 (by decide)
  intro d n J K I a w h1 h2 h3 h4 h5 h6 h7 h8 hK
  have := h (d + 6) n J K I a w h1 h2 h3 h4 h5 h6 h7 h8 hK
  exact this
end
