/-! how the class reads a text: levels, operands -/
section
variable (t : Nat → Nat) (N : Nat) (xs : Nat → Int32)
def cjt (dd l o : Nat) (op : Nat → pR) : Prop := ∀ (d n : Nat) (J : sm_J) (K : Option Value → sm_H → Prop) (I : sm_I) (a w : Nat), iv_ro xs I → ctp t N I → a ≤ N → w ≤ 2 * a + 2 → I 31 4 = nI a → I 31 5 = nI o → I 31 1 = nI w → I 31 6 = 0 →
  (∀ I', cpo w (op a).1 (op a).2.1 (op a).2.2.1 I I' → K none (sm_SH n, I', J)) → sm_Ok (d + dd) 34 0 [.ref 31, .int (nI l), .null, .null, .null] [] (sm_SH n, I, J) K
def cop (dd o : Nat) (op : Nat → pR) : Prop := ∀ (d n : Nat) (J : sm_J) (K : Option Value → sm_H → Prop) (I : sm_I) (a w : Nat), iv_ro xs I → ctp t N I → a ≤ N → w ≤ 2 * a + 2 → I 31 4 = nI a → I 31 5 = nI o → I 31 1 = nI w → I 31 6 = 0 →
  (∀ I', cpo w (op a).1 (op a).2.1 (op a).2.2.1 I I' → K none (sm_SH n, I', J)) → sm_Ok (d + dd) 36 0 [.ref 31, .null, .null] [] (sm_SH n, I, J) K
theorem c_signs (d n : Nat) (I : sm_I) (J : sm_J) (K : Option Value → sm_H → Prop) {l : Nat} (hl : l < 5) : sm_Ok d 35 0 [.int (nI l)] [] (sm_SH n, I, J) K ↔ K (some (.ref (4 + (2 + l)))) (sm_SH n, I, J) := by
  rcases (show l = 0 ∨ l = 1 ∨ l = 2 ∨ l = 3 ∨ l = 4 by omega) with rfl | rfl | rfl | rfl | rfl
  · simp +decide only [z35_0, z35_1, z35_32, z35_34, z35_37, z35_39, z35_42, z35_44, z35_47, z35_49, z35_52, z35_54, sm_cti, sm_ctr, sm_ctn, sm_nbi, Option.toList_some, Option.toList_none, List.cons_append, List.nil_append, ne_eq, reduceCtorEq, not_false_eq_true, Nat.reduceLeDiff, if_true, if_false, not_true_eq_false, not_false_eq_true, and_true, true_and, and_false, false_and, and_self, or_true, true_or, or_false, false_or, reduceIte, iff_self, Int32.add_zero, y_10, Classical.not_not]
  · simp +decide only [z35_0, z35_1, z35_32, z35_34, z35_37, z35_39, z35_42, z35_44, z35_47, z35_49, z35_52, z35_54, sm_cti, sm_ctr, sm_ctn, sm_nbi, Option.toList_some, Option.toList_none, List.cons_append, List.nil_append, ne_eq, reduceCtorEq, not_false_eq_true, Nat.reduceLeDiff, if_true, if_false, not_true_eq_false, not_false_eq_true, and_true, true_and, and_false, false_and, and_self, or_true, true_or, or_false, false_or, reduceIte, iff_self, Int32.add_zero, y_10, Classical.not_not]
  · simp +decide only [z35_0, z35_1, z35_32, z35_34, z35_37, z35_39, z35_42, z35_44, z35_47, z35_49, z35_52, z35_54, sm_cti, sm_ctr, sm_ctn, sm_nbi, Option.toList_some, Option.toList_none, List.cons_append, List.nil_append, ne_eq, reduceCtorEq, not_false_eq_true, Nat.reduceLeDiff, if_true, if_false, not_true_eq_false, not_false_eq_true, and_true, true_and, and_false, false_and, and_self, or_true, true_or, or_false, false_or, reduceIte, iff_self, Int32.add_zero, y_10, Classical.not_not]
  · simp +decide only [z35_0, z35_1, z35_32, z35_34, z35_37, z35_39, z35_42, z35_44, z35_47, z35_49, z35_52, z35_54, sm_cti, sm_ctr, sm_ctn, sm_nbi, Option.toList_some, Option.toList_none, List.cons_append, List.nil_append, ne_eq, reduceCtorEq, not_false_eq_true, Nat.reduceLeDiff, if_true, if_false, not_true_eq_false, not_false_eq_true, and_true, true_and, and_false, false_and, and_self, or_true, true_or, or_false, false_or, reduceIte, iff_self, Int32.add_zero, y_10, Classical.not_not]
  · simp +decide only [z35_0, z35_1, z35_32, z35_34, z35_37, z35_39, z35_42, z35_44, z35_47, z35_49, z35_52, z35_54, sm_cti, sm_ctr, sm_ctn, sm_nbi, Option.toList_some, Option.toList_none, List.cons_append, List.nil_append, ne_eq, reduceCtorEq, not_false_eq_true, Nat.reduceLeDiff, if_true, if_false, not_true_eq_false, not_false_eq_true, and_true, true_and, and_false, false_and, and_self, or_true, true_or, or_false, false_or, reduceIte, iff_self, Int32.add_zero, y_10, Classical.not_not]
theorem sgs_tx {l : Nat} (hl : l < 5) (v : Nat) : tx (2 + l) v = sgs l v := by
  rcases (show l = 0 ∨ l = 1 ∨ l = 2 ∨ l = 3 ∨ l = 4 by omega) with rfl | rfl | rfl | rfl | rfl <;> rfl
theorem sgs_ne {l v : Nat} (h : sgs l v = true) : v ≠ 0 := by
  rintro rfl
  revert h
  unfold sgs
  split <;> decide
variable {t N xs}
theorem c_jlp {dd l o : Nat} (hl : l < 5) {sub : Nat → pR} (hs : cjt t N xs (dd + 7) (l + 1) o sub) (hg : gp N sub) {I : sm_I} (hR : iv_ro xs I) (hT : ctp t N I) (hO : I 31 5 = nI o) {a w : Nat} (haw : w ≤ 2 * a + 2) (d n : Nat) (J : sm_J) (K : Option Value → sm_H → Prop) : ∀ (k i : Nat) (r : pR), i + k = mst l → r.1 ≤ N → (r.2.1 = false → a < r.1 ∧ r.2.2.1.length + a ≤ r.1) → ∀ (sg : Int32) (I1 I2 : sm_I), cpo w r.1 r.2.1 r.2.2.1 I I1 →
    ((sg = nI (t r.1) ∧ I2 = sm_uI I1 31 4 (nI (r.1 + 1)) ∧ 0 < k ∧ r.2.1 = false ∧ r.1 < N ∧ sgs l (t r.1) = true) ∨ (sg = 0 ∧ I2 = I1 ∧ ¬ (0 < k ∧ r.2.1 = false ∧ r.1 < N ∧ sgs l (t r.1) = true))) →
    (∀ I', cpo w (pl t N (sgs l) sub k r).1 (pl t N (sgs l) sub k r).2.1 (pl t N (sgs l) sub k r).2.2.1 I I' → K none (sm_SH n, I', J)) →
    sm_Ok (d + dd + 8) 34 41 [.ref 31, .int (nI l), .int (nI (mst l)), .int sg, .int (nI i)] [] (sm_SH n, I2, J) K
  | 0, i, r, hi, hN, hr, sg, I1, I2, hc, hsg, hK => by
    rcases hsg with ⟨-, -, h0, -⟩ | ⟨rfl, rfl, -⟩
    · exact absurd h0 (Nat.lt_irrefl 0)
    · have hm : i = mst l := by omega
      subst hm
      rw [z34_41]
      simp only [z34_1, z34_2, z34_5, z34_6, z34_9, z34_10, z34_11, z34_12, z34_13, z34_14, z34_17, z34_18, z34_19, z34_22, z34_23, z34_26, z34_28, z34_29, z34_30, z34_31, z34_34, z34_37, z34_38, z34_39, z34_43, z34_44, z34_47, z34_48, z34_51, z34_52, z34_53, z34_54, z34_55, z34_58, z34_59, z34_60, z34_63, z34_65, z34_66, z34_67, z34_68, z34_71, z34_72, z34_73, z34_76, z34_79, z34_82, z34_83, z34_84, z34_87, z34_90, sm_cti, sm_ctr, sm_ctn, sm_nbi, Option.toList_some, Option.toList_none, List.cons_append, List.nil_append, ne_eq, reduceCtorEq, not_false_eq_true, Nat.reduceLeDiff, Int32.le_refl, if_true, if_false, not_true_eq_false, not_false_eq_true, and_true, true_and, and_false, false_and, and_self, or_true, true_or, or_false, false_or, reduceIte, iff_self, Int32.add_zero, y_10, Classical.not_not]
      exact hK _ hc
  | k + 1, i, r, hi, hN, hr, sg, I1, I2, hc, hsg, hK => by
    have hml : mst l ≤ 120 := by unfold mst; split <;> omega
    have h4 : ¬ nI (mst l) ≤ nI i := nI_ge (by omega) (by omega)
    rcases hsg with ⟨rfl, rfl, -, h1, h2, h3⟩ | ⟨rfl, rfl, hn⟩
    · have hne := sgs_ne h3
      have hlt := (hT.2.2 r.1 h2).1
      have h0 : ¬ nI (t r.1) = 0 := nI_ne0 (by omega) (by omega)
      obtain ⟨q1, q2⟩ := hr h1
      rw [h1] at hc
      have c0 := cpo_tr hc rfl (cpo_at (a := r.1 + 1) (hc.2.2.2.2.2 rfl).1 (hc.2.2.2.2.2 rfl).2.1)
      rw [List.append_nil] at c0
      obtain ⟨u1, u2, u3, u4⟩ := c0.2.2.2.2.2 rfl
      have hpl : pl t N (sgs l) sub (k + 1) r = pl t N (sgs l) sub k ((sub (r.1 + 1)).1, (sub (r.1 + 1)).2.1, r.2.2.1 ++ (sub (r.1 + 1)).2.2.1 ++ [nI (t r.1)], fun g => jn (t r.1) (r.2.2.2 g) ((sub (r.1 + 1)).2.2.2 g)) := by
        rw [pl, if_pos ⟨h1, h2, h3⟩]
      obtain ⟨g1, g2, g3⟩ := hg (r.1 + 1) (by omega)
      rw [hpl] at hK
      have e1 : nI l + 1 = nI (l + 1) := nI_1 l
      rw [z34_41]
      simp only [z34_1, z34_2, z34_5, z34_6, z34_9, z34_10, z34_11, z34_12, z34_13, z34_14, z34_17, z34_18, z34_19, z34_22, z34_23, z34_26, z34_28, z34_29, z34_30, z34_31, z34_34, z34_37, z34_38, z34_39, z34_43, z34_44, z34_47, z34_48, z34_51, z34_52, z34_53, z34_54, z34_55, z34_58, z34_59, z34_60, z34_63, z34_65, z34_66, z34_67, z34_68, z34_71, z34_72, z34_73, z34_76, z34_79, z34_82, z34_83, z34_84, z34_87, z34_90, sm_cti, sm_ctr, sm_ctn, sm_nbi, Option.toList_some, Option.toList_none, List.cons_append, List.nil_append, ne_eq, reduceCtorEq, not_false_eq_true, Nat.reduceLeDiff, h4, h0, rc31, e1, if_true, if_false, not_true_eq_false, not_false_eq_true, and_true, true_and, and_false, false_and, and_self, or_true, true_or, or_false, false_or, reduceIte, iff_self, Int32.add_zero, y_10, Classical.not_not]
      refine hs d n J _ _ (r.1 + 1) (w + r.2.2.1.length) (cpo_ro c0 hR) (cpo_tp c0 hT) (by omega) (by omega) c0.2.2.1 (by rw [c0.2.2.2.1, hO]) u2 u1 (fun I3 c3 => ?_)
      have ro3 := cpo_ro c3 (cpo_ro c0 hR)
      have tp3 := cpo_tp c3 (cpo_tp c0 hT)
      have nx : nI i + 1 = nI (i + 1) := nI_1 i
      cases hwr : (sub (r.1 + 1)).2.1 with
      | true =>
        rw [hwr] at c3
        have w3 := c3.2.2.2.2.1 rfl
        have cc : cpo w (sub (r.1 + 1)).1 true (r.2.2.1 ++ (sub (r.1 + 1)).2.2.1 ++ [nI (t r.1)]) I I3 := cpo_cw (cpo_tr c0 rfl c3)
        rw [hwr] at hK
        have fin : sm_Ok (d + dd + 8) 34 41 [.ref 31, .int (nI l), .int (nI (mst l)), .int 0, .int (nI (i + 1))] [] (sm_SH n, I3, J) K :=
          c_jlp hl hs hg hR hT hO haw d n J K k (i + 1) ((sub (r.1 + 1)).1, true, r.2.2.1 ++ (sub (r.1 + 1)).2.2.1 ++ [nI (t r.1)], fun g => jn (t r.1) (r.2.2.2 g) ((sub (r.1 + 1)).2.2.2 g)) (by omega) g2 (fun z => by cases z) 0 I3 I3 cc (Or.inr ⟨rfl, rfl, fun z => by cases z.2.1⟩) hK
        simp only [z34_1, z34_2, z34_5, z34_6, z34_9, z34_10, z34_11, z34_12, z34_13, z34_14, z34_17, z34_18, z34_19, z34_22, z34_23, z34_26, z34_28, z34_29, z34_30, z34_31, z34_34, z34_37, z34_38, z34_39, z34_43, z34_44, z34_47, z34_48, z34_51, z34_52, z34_53, z34_54, z34_55, z34_58, z34_59, z34_60, z34_63, z34_65, z34_66, z34_67, z34_68, z34_71, z34_72, z34_73, z34_76, z34_79, z34_82, z34_83, z34_84, z34_87, z34_90, sm_cti, sm_ctr, sm_ctn, sm_nbi, Option.toList_some, Option.toList_none, List.cons_append, List.nil_append, ne_eq, reduceCtorEq, not_false_eq_true, Nat.reduceLeDiff, rc31, c_emitW _ _ _ _ w3, c_skipW _ _ _ _ _ w3, c_signs _ _ _ _ _ hl, nx, if_true, if_false, not_true_eq_false, not_false_eq_true, and_true, true_and, and_false, false_and, and_self, or_true, true_or, or_false, false_or, reduceIte, iff_self, Int32.add_zero, y_10, Classical.not_not]
        split
        · exact fin
        · exact fin
      | false =>
        rw [hwr] at c3
        obtain ⟨v1, v2, v3, v4⟩ := c3.2.2.2.2.2 rfl
        obtain ⟨g4, g5⟩ := g3 hwr
        have hNN := hT.1
        have c4 := cpo_em (w := w + r.2.2.1.length + (sub (r.1 + 1)).2.2.1.length) c3.2.2.1 v1 (nI (t r.1))
        have cc := cpo_tr (cpo_tr c0 rfl c3) (by rw [List.length_append, Nat.add_assoc]) c4
        rw [hwr] at hK
        obtain ⟨s1, s2, s3, s4⟩ := c4.2.2.2.2.2 rfl
        have ro4 := cpo_ro c4 ro3
        have tp4 := cpo_tp c4 tp3
        have sk := fun K => c_skip ro4 tp4 (d + dd + 1) n J K (i := 2 + l) (a := (sub (r.1 + 1)).1) (by omega) g2 c4.2.2.1 s1
        simp only [sgs_tx hl] at sk
        simp only [z34_1, z34_2, z34_5, z34_6, z34_9, z34_10, z34_11, z34_12, z34_13, z34_14, z34_17, z34_18, z34_19, z34_22, z34_23, z34_26, z34_28, z34_29, z34_30, z34_31, z34_34, z34_37, z34_38, z34_39, z34_43, z34_44, z34_47, z34_48, z34_51, z34_52, z34_53, z34_54, z34_55, z34_58, z34_59, z34_60, z34_63, z34_65, z34_66, z34_67, z34_68, z34_71, z34_72, z34_73, z34_76, z34_79, z34_82, z34_83, z34_84, z34_87, z34_90, sm_cti, sm_ctr, sm_ctn, sm_nbi, Option.toList_some, Option.toList_none, List.cons_append, List.nil_append, ne_eq, reduceCtorEq, not_false_eq_true, Nat.reduceLeDiff, rc31, c_emit _ _ _ _ (show w + r.2.2.1.length + (sub (r.1 + 1)).2.2.1.length < 256 by omega) v2 v1, c_signs _ _ _ _ _ hl, nx, if_true, if_false, not_true_eq_false, not_false_eq_true, and_true, true_and, and_false, false_and, and_self, or_true, true_or, or_false, false_or, reduceIte, iff_self, Int32.add_zero, y_10, Classical.not_not]
        have hr' : ((sub (r.1 + 1)).1, false, r.2.2.1 ++ (sub (r.1 + 1)).2.2.1 ++ [nI (t r.1)], fun g => jn (t r.1) (r.2.2.2 g) ((sub (r.1 + 1)).2.2.2 g)).2.1 = false → a < (sub (r.1 + 1)).1 ∧ (r.2.2.1 ++ (sub (r.1 + 1)).2.2.1 ++ [nI (t r.1)]).length + a ≤ (sub (r.1 + 1)).1 := fun _ => by
          refine ⟨by omega, ?_⟩
          simp only [List.length_append, List.length_cons, List.length_nil]
          omega
        by_cases hk : k = 0
        · have h5 : nI (mst l) ≤ nI (i + 1) := nI_le (by omega) (by omega)
          simp only [h5, if_true, if_false, not_true_eq_false, not_false_eq_true, and_true, true_and, and_false, false_and, and_self, or_true, true_or, or_false, false_or, reduceIte, iff_self, Int32.add_zero, y_10, Classical.not_not]
          exact c_jlp hl hs hg hR hT hO haw d n J K k (i + 1) ((sub (r.1 + 1)).1, false, r.2.2.1 ++ (sub (r.1 + 1)).2.2.1 ++ [nI (t r.1)], fun g => jn (t r.1) (r.2.2.2 g) ((sub (r.1 + 1)).2.2.2 g)) (by omega) g2 hr' 0 _ _ cc (Or.inr ⟨rfl, rfl, fun z => by omega⟩) hK
        · have h5 : ¬ nI (mst l) ≤ nI (i + 1) := nI_ge (by omega) (by omega)
          simp only [h5, sk, if_true, if_false, not_true_eq_false, not_false_eq_true, and_true, true_and, and_false, false_and, and_self, or_true, true_or, or_false, false_or, reduceIte, iff_self, Int32.add_zero, y_10, Classical.not_not]
          by_cases hd : (sub (r.1 + 1)).1 < N ∧ sgs l (t (sub (r.1 + 1)).1) = true
          · rw [if_pos hd]
            simp only [z34_1, z34_2, z34_5, z34_6, z34_9, z34_10, z34_11, z34_12, z34_13, z34_14, z34_17, z34_18, z34_19, z34_22, z34_23, z34_26, z34_28, z34_29, z34_30, z34_31, z34_34, z34_37, z34_38, z34_39, z34_43, z34_44, z34_47, z34_48, z34_51, z34_52, z34_53, z34_54, z34_55, z34_58, z34_59, z34_60, z34_63, z34_65, z34_66, z34_67, z34_68, z34_71, z34_72, z34_73, z34_76, z34_79, z34_82, z34_83, z34_84, z34_87, z34_90, sm_cti, sm_ctr, sm_ctn, sm_nbi, Option.toList_some, Option.toList_none, List.cons_append, List.nil_append, ne_eq, reduceCtorEq, not_false_eq_true, Nat.reduceLeDiff, nx, if_true, if_false, not_true_eq_false, not_false_eq_true, and_true, true_and, and_false, false_and, and_self, or_true, true_or, or_false, false_or, reduceIte, iff_self, Int32.add_zero, y_10, Classical.not_not]
            exact c_jlp hl hs hg hR hT hO haw d n J K k (i + 1) ((sub (r.1 + 1)).1, false, r.2.2.1 ++ (sub (r.1 + 1)).2.2.1 ++ [nI (t r.1)], fun g => jn (t r.1) (r.2.2.2 g) ((sub (r.1 + 1)).2.2.2 g)) (by omega) g2 hr' _ _ _ cc (Or.inl ⟨rfl, rfl, by omega, rfl, hd.1, hd.2⟩) hK
          · rw [if_neg hd]
            simp only [z34_1, z34_2, z34_5, z34_6, z34_9, z34_10, z34_11, z34_12, z34_13, z34_14, z34_17, z34_18, z34_19, z34_22, z34_23, z34_26, z34_28, z34_29, z34_30, z34_31, z34_34, z34_37, z34_38, z34_39, z34_43, z34_44, z34_47, z34_48, z34_51, z34_52, z34_53, z34_54, z34_55, z34_58, z34_59, z34_60, z34_63, z34_65, z34_66, z34_67, z34_68, z34_71, z34_72, z34_73, z34_76, z34_79, z34_82, z34_83, z34_84, z34_87, z34_90, sm_cti, sm_ctr, sm_ctn, sm_nbi, Option.toList_some, Option.toList_none, List.cons_append, List.nil_append, ne_eq, reduceCtorEq, not_false_eq_true, Nat.reduceLeDiff, nx, if_true, if_false, not_true_eq_false, not_false_eq_true, and_true, true_and, and_false, false_and, and_self, or_true, true_or, or_false, false_or, reduceIte, iff_self, Int32.add_zero, y_10, Classical.not_not]
            exact c_jlp hl hs hg hR hT hO haw d n J K k (i + 1) ((sub (r.1 + 1)).1, false, r.2.2.1 ++ (sub (r.1 + 1)).2.2.1 ++ [nI (t r.1)], fun g => jn (t r.1) (r.2.2.2 g) ((sub (r.1 + 1)).2.2.2 g)) (by omega) g2 hr' _ _ _ cc (Or.inr ⟨rfl, rfl, fun z => hd ⟨z.2.2.1, z.2.2.2⟩⟩) hK
    · have hpl : pl t N (sgs l) sub (k + 1) r = r := by
        rw [pl, if_neg (fun z => hn ⟨by omega, z⟩)]
      rw [hpl] at hK
      rw [z34_41]
      simp only [z34_1, z34_2, z34_5, z34_6, z34_9, z34_10, z34_11, z34_12, z34_13, z34_14, z34_17, z34_18, z34_19, z34_22, z34_23, z34_26, z34_28, z34_29, z34_30, z34_31, z34_34, z34_37, z34_38, z34_39, z34_43, z34_44, z34_47, z34_48, z34_51, z34_52, z34_53, z34_54, z34_55, z34_58, z34_59, z34_60, z34_63, z34_65, z34_66, z34_67, z34_68, z34_71, z34_72, z34_73, z34_76, z34_79, z34_82, z34_83, z34_84, z34_87, z34_90, sm_cti, sm_ctr, sm_ctn, sm_nbi, Option.toList_some, Option.toList_none, List.cons_append, List.nil_append, ne_eq, reduceCtorEq, not_false_eq_true, Nat.reduceLeDiff, h4, if_true, if_false, not_true_eq_false, not_false_eq_true, and_true, true_and, and_false, false_and, and_self, or_true, true_or, or_false, false_or, reduceIte, iff_self, Int32.add_zero, y_10, Classical.not_not]
      exact hK _ hc
theorem c_joint5 {dd o : Nat} {op : Nat → pR} (h : cop t N xs dd o op) : cjt t N xs (dd + 1) 5 o op := by
  intro d n J K I a w h1 h2 h3 h4 h5 h6 h7 h8 hK
  have e : nI 5 = (5 : Int32) := rfl
  have e2 : ¬ (5 : Int32) < 5 := by decide
  rw [← Nat.add_assoc, z34_0]
  simp only [z34_1, z34_2, z34_5, z34_6, z34_9, z34_10, z34_11, z34_12, z34_13, z34_14, z34_17, z34_18, z34_19, z34_22, z34_23, z34_26, z34_28, z34_29, z34_30, z34_31, z34_34, z34_37, z34_38, z34_39, z34_43, z34_44, z34_47, z34_48, z34_51, z34_52, z34_53, z34_54, z34_55, z34_58, z34_59, z34_60, z34_63, z34_65, z34_66, z34_67, z34_68, z34_71, z34_72, z34_73, z34_76, z34_79, z34_82, z34_83, z34_84, z34_87, z34_90, sm_cti, sm_ctr, sm_ctn, sm_nbi, Option.toList_some, Option.toList_none, List.cons_append, List.nil_append, ne_eq, reduceCtorEq, not_false_eq_true, Nat.reduceLeDiff, rc31, e, e2, if_true, if_false, not_true_eq_false, not_false_eq_true, and_true, true_and, and_false, false_and, and_self, or_true, true_or, or_false, false_or, reduceIte, iff_self, Int32.add_zero, y_10, Classical.not_not]
  refine h d n J _ I a w h1 h2 h3 h4 h5 h6 h7 h8 (fun I' hc => ?_)
  simp only [z34_1, z34_2, z34_5, z34_6, z34_9, z34_10, z34_11, z34_12, z34_13, z34_14, z34_17, z34_18, z34_19, z34_22, z34_23, z34_26, z34_28, z34_29, z34_30, z34_31, z34_34, z34_37, z34_38, z34_39, z34_43, z34_44, z34_47, z34_48, z34_51, z34_52, z34_53, z34_54, z34_55, z34_58, z34_59, z34_60, z34_63, z34_65, z34_66, z34_67, z34_68, z34_71, z34_72, z34_73, z34_76, z34_79, z34_82, z34_83, z34_84, z34_87, z34_90, sm_cti, sm_ctr, sm_ctn, sm_nbi, Option.toList_some, Option.toList_none, List.cons_append, List.nil_append, ne_eq, reduceCtorEq, not_false_eq_true, Nat.reduceLeDiff, if_true, if_false, not_true_eq_false, not_false_eq_true, and_true, true_and, and_false, false_and, and_self, or_true, true_or, or_false, false_or, reduceIte, iff_self, Int32.add_zero, y_10, Classical.not_not]
  exact hK I' hc
theorem c_joint1 {dd l o : Nat} (hl : l < 5) {sub : Nat → pR} (hs : cjt t N xs (dd + 7) (l + 1) o sub) (hg : gp N sub) : cjt t N xs (dd + 8) l o (fun a => pl t N (sgs l) sub (mst l) (sub a)) := by
  intro d n J K I a w h1 h2 h3 h4 h5 h6 h7 h8 hK
  have e2 : nI l < 5 := nI_lt (b := 5) hl (by decide)
  have e1 : nI l + 1 = nI (l + 1) := nI_1 l
  rw [show d + (dd + 8) = d + (dd + 7) + 1 from rfl, z34_0]
  simp only [z34_1, z34_2, z34_5, z34_6, z34_9, z34_10, z34_11, z34_12, z34_13, z34_14, z34_17, z34_18, z34_19, z34_22, z34_23, z34_26, z34_28, z34_29, z34_30, z34_31, z34_34, z34_37, z34_38, z34_39, z34_43, z34_44, z34_47, z34_48, z34_51, z34_52, z34_53, z34_54, z34_55, z34_58, z34_59, z34_60, z34_63, z34_65, z34_66, z34_67, z34_68, z34_71, z34_72, z34_73, z34_76, z34_79, z34_82, z34_83, z34_84, z34_87, z34_90, sm_cti, sm_ctr, sm_ctn, sm_nbi, Option.toList_some, Option.toList_none, List.cons_append, List.nil_append, ne_eq, reduceCtorEq, not_false_eq_true, Nat.reduceLeDiff, rc31, e1, e2, if_true, if_false, not_true_eq_false, not_false_eq_true, and_true, true_and, and_false, false_and, and_self, or_true, true_or, or_false, false_or, reduceIte, iff_self, Int32.add_zero, y_10, Classical.not_not]
  refine hs d n J _ I a w h1 h2 h3 h4 h5 h6 h7 h8 (fun I1 c1 => ?_)
  obtain ⟨g1, g2, g3⟩ := hg a h3
  have lp := fun sg I2 hsg => c_jlp hl hs hg h1 h2 h6 h4 d n J K (mst l) 0 (sub a) (by omega) g2 g3 sg I1 I2 c1 hsg hK
  have hm0 : 0 < mst l := by unfold mst; split <;> omega
  have em : (if ¬ nI l = 2 then (120 : Int32) else 1) = nI (mst l) := by
    unfold mst
    by_cases hl2 : l = 2
    · subst hl2
      rfl
    · have : ¬ nI l = 2 := fun z => hl2 ((nI_eq (b := 2) (by omega) (by decide)).mp z)
      rw [if_pos this, if_neg hl2]
      rfl
  have ro1 := cpo_ro c1 h1
  have tp1 := cpo_tp c1 h2
  have go : sm_Ok (d + dd + 8) 34 28 [.ref 31, .int (nI l), .null, .null, .null] [.int (nI (mst l))] (sm_SH n, I1, J) K := by
    cases hwr : (sub a).2.1 with
    | true =>
      have w1 := c1.2.2.2.2.1 hwr
      simp only [z34_1, z34_2, z34_5, z34_6, z34_9, z34_10, z34_11, z34_12, z34_13, z34_14, z34_17, z34_18, z34_19, z34_22, z34_23, z34_26, z34_28, z34_29, z34_30, z34_31, z34_34, z34_37, z34_38, z34_39, z34_43, z34_44, z34_47, z34_48, z34_51, z34_52, z34_53, z34_54, z34_55, z34_58, z34_59, z34_60, z34_63, z34_65, z34_66, z34_67, z34_68, z34_71, z34_72, z34_73, z34_76, z34_79, z34_82, z34_83, z34_84, z34_87, z34_90, sm_cti, sm_ctr, sm_ctn, sm_nbi, Option.toList_some, Option.toList_none, List.cons_append, List.nil_append, ne_eq, reduceCtorEq, not_false_eq_true, Nat.reduceLeDiff, rc31, c_skipW _ _ _ _ _ w1, c_signs _ _ _ _ _ hl, if_true, if_false, not_true_eq_false, not_false_eq_true, and_true, true_and, and_false, false_and, and_self, or_true, true_or, or_false, false_or, reduceIte, iff_self, Int32.add_zero, y_10, Classical.not_not]
      exact lp 0 I1 (Or.inr ⟨rfl, rfl, fun z => by rw [hwr] at z; cases z.2.1⟩)
    | false =>
      obtain ⟨v1, v2, v3, v4⟩ := c1.2.2.2.2.2 hwr
      have sk := fun K => c_skip ro1 tp1 (d + dd + 1) n J K (i := 2 + l) (a := (sub a).1) (by omega) g2 c1.2.2.1 v1
      simp only [sgs_tx hl] at sk
      simp only [z34_1, z34_2, z34_5, z34_6, z34_9, z34_10, z34_11, z34_12, z34_13, z34_14, z34_17, z34_18, z34_19, z34_22, z34_23, z34_26, z34_28, z34_29, z34_30, z34_31, z34_34, z34_37, z34_38, z34_39, z34_43, z34_44, z34_47, z34_48, z34_51, z34_52, z34_53, z34_54, z34_55, z34_58, z34_59, z34_60, z34_63, z34_65, z34_66, z34_67, z34_68, z34_71, z34_72, z34_73, z34_76, z34_79, z34_82, z34_83, z34_84, z34_87, z34_90, sm_cti, sm_ctr, sm_ctn, sm_nbi, Option.toList_some, Option.toList_none, List.cons_append, List.nil_append, ne_eq, reduceCtorEq, not_false_eq_true, Nat.reduceLeDiff, rc31, sk, c_signs _ _ _ _ _ hl, if_true, if_false, not_true_eq_false, not_false_eq_true, and_true, true_and, and_false, false_and, and_self, or_true, true_or, or_false, false_or, reduceIte, iff_self, Int32.add_zero, y_10, Classical.not_not]
      by_cases hd : (sub a).1 < N ∧ sgs l (t (sub a).1) = true
      · rw [if_pos hd]
        exact lp _ _ (Or.inl ⟨rfl, rfl, hm0, hwr, hd.1, hd.2⟩)
      · rw [if_neg hd]
        exact lp _ _ (Or.inr ⟨rfl, rfl, fun z => hd ⟨z.2.2.1, z.2.2.2⟩⟩)
  rw [← em] at go
  simp only [z34_1, z34_2, z34_5, z34_6, z34_9, z34_10, z34_11, z34_12, z34_13, z34_14, z34_17, z34_18, z34_19, z34_22, z34_23, z34_26, z34_28, z34_29, z34_30, z34_31, z34_34, z34_37, z34_38, z34_39, z34_43, z34_44, z34_47, z34_48, z34_51, z34_52, z34_53, z34_54, z34_55, z34_58, z34_59, z34_60, z34_63, z34_65, z34_66, z34_67, z34_68, z34_71, z34_72, z34_73, z34_76, z34_79, z34_82, z34_83, z34_84, z34_87, z34_90, sm_cti, sm_ctr, sm_ctn, sm_nbi, Option.toList_some, Option.toList_none, List.cons_append, List.nil_append, ne_eq, reduceCtorEq, not_false_eq_true, Nat.reduceLeDiff, if_true, if_false, not_true_eq_false, not_false_eq_true, and_true, true_and, and_false, false_and, and_self, or_true, true_or, or_false, false_or, reduceIte, iff_self, Int32.add_zero, y_10, Classical.not_not] at go ⊢
  by_cases hl2 : nI l = 2
  · simp only [hl2, if_true, if_false, not_true_eq_false, not_false_eq_true, and_true, true_and, and_false, false_and, and_self, or_true, true_or, or_false, false_or, reduceIte, iff_self, Int32.add_zero, y_10, Classical.not_not] at go ⊢
    exact go
  · simp only [hl2, if_true, if_false, not_true_eq_false, not_false_eq_true, and_true, true_and, and_false, false_and, and_self, or_true, true_or, or_false, false_or, reduceIte, iff_self, Int32.add_zero, y_10, Classical.not_not] at go ⊢
    exact go
/-- a level -/
theorem c_levels {dd o : Nat} {op : Nat → pR} (h : cop t N xs (dd + 6) o op) (hg : gp N op) : ∀ j, j ≤ 5 → cjt t N xs (dd + 7 + j) (5 - j) o (pv t N op j)
  | 0, _ => c_joint5 h
  | j + 1, hj => by
    have ih := c_levels h hg j (by omega)
    have hs : 5 - j = 4 - j + 1 := by omega
    rw [hs, show dd + 7 + j = dd + j + 7 by omega] at ih
    have := c_joint1 (show 4 - j < 5 by omega) ih (pv_gp t N hg j)
    rw [show dd + 7 + (j + 1) = dd + j + 8 by omega, show 5 - (j + 1) = 4 - j by omega]
    exact this
end
