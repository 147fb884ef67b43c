/-! both answer alike: judge -/
theorem i64_inj (x y : Int32) : (x.toInt64 = y.toInt64) = (x = y) := propext ⟨fun h => by
  have h2 : x.toInt64.toInt32 = y.toInt64.toInt32 := by rw [h]
  rw [t64, t64] at h2
  exact h2, fun h => by rw [h]⟩
section
variable {P D : Nat} {f a b : Nat → Nat} {lo : Option ((Nat → Nat) × Nat)}
def jok (P D : Nat) (f a b : Nat → Nat) (lo : Option ((Nat → Nat) × Nat)) (el e2 : Nat → Int32) (m : Nat) (g : Nat → Nat) (i : Nat) : Bool := decide (i < nso D m el ∧ nI (pay P D f a b lo (rnt P D f a b lo (sl el) g i) (sl el i)) = e2 i)
theorem c_ju_lp (hb : bdf P D f a b) {s t m s2 t2 m2 : Nat} {el e2 : Nat → Int32} {I : sm_I} {J : sm_J} (hR : rowb s t m el I J) (hR2 : rowb s2 t2 m2 e2 I J) (hF : cFo P D f a b I) (hL : cLw lo I) {g : Nat → Nat} (hg : bdg g) (d n : Nat) (K : Option Value → sm_H → Prop) : ∀ (w i : Nat), i + w = m2 → ∀ I1 : sm_I, (∀ x c, ¬ (x = 29 ∨ x = 30 ∨ (44 ≤ x ∧ x < 48)) → I1 x c = I x c) → cTa 44 (rnt P D f a b lo (sl el) g i) I1 →
    (∀ I', (∀ x c, ¬ (x = 29 ∨ x = 30 ∨ (44 ≤ x ∧ x < 48)) → I' x c = I x c) → K (some (.int (fno (jok P D f a b lo el e2 m g) w i))) (sm_SH n, I', J)) →
    sm_Ok (d + 5) 143 28 [.ref 26, .int (nI s), .int (nI s2), .int (nI (nso D m el)), .ref (91 + 2 * s2), .int (nI i)] [] (sm_SH n, I1, J) K
  | 0, i, hi, I1, f1, t1, hK => by
    have hi : i = m2 := by omega
    subst hi
    obtain ⟨k1, k2, k3⟩ := y_shelf hR2.1
    have hs2 := hR2.1
    have em : I1 (91 + 2 * s2) 3 = nI i := by rw [f1 _ _ (by omega), hR2.2.2.2.2.1]
    rw [fno_0] at hK
    rw [z143_28]
    simp only [z143_0, z143_1, z143_2, z143_5, z143_6, z143_7, z143_10, z143_11, z143_12, z143_14, z143_15, z143_18, z143_19, z143_22, z143_25, z143_26, z143_30, z143_32, z143_35, z143_38, z143_40, z143_41, z143_44, z143_45, z143_48, z143_49, z143_52, z143_53, z143_54, z143_56, z143_59, z143_62, z143_63, z143_65, z143_68, z143_70, z143_71, z143_72, z143_75, z143_77, z143_78, z143_81, z143_84, z143_86, sm_cti, sm_ctr, sm_ctn, sm_nbi, Option.toList_some, Option.toList_none, List.cons_append, List.nil_append, ne_eq, reduceCtorEq, not_false_eq_true, Nat.reduceLeDiff, k1, em, Int32.le_refl, if_true, if_false, not_true_eq_false, not_false_eq_true, and_true, true_and, and_false, false_and, and_self, or_true, true_or, or_false, false_or, reduceIte, iff_self, Int32.add_zero, y_10, Classical.not_not]
    exact hK I1 f1
  | w + 1, i, hi, I1, f1, t1, hK => by
    obtain ⟨k1, k2, k3⟩ := y_shelf hR2.1
    have hs2 := hR2.1
    have hm2 := hR2.2.1
    have hm := hR.2.1
    have hn := nso_le D m el
    have hD12 := hb.2.1
    have em : I1 (91 + 2 * s2) 3 = nI m2 := by rw [f1 _ _ (by omega), hR2.2.2.2.2.1]
    have e1 : ¬ nI m2 ≤ nI i := nI_ge (by omega) (by omega)
    rw [fno_s] at hK
    rw [z143_28]
    by_cases hin : i < nso D m el
    · obtain ⟨o1, o2⟩ := nso_ok hb.2.1 hin
      have R1 : rowb s t m el I1 J := rowb_f hR (fun x c hx => f1 x c (by omega))
      have e2' : ¬ nI (nso D m el) ≤ nI i := nI_ge hin (by omega)
      simp only [z143_0, z143_1, z143_2, z143_5, z143_6, z143_7, z143_10, z143_11, z143_12, z143_14, z143_15, z143_18, z143_19, z143_22, z143_25, z143_26, z143_30, z143_32, z143_35, z143_38, z143_40, z143_41, z143_44, z143_45, z143_48, z143_49, z143_52, z143_53, z143_54, z143_56, z143_59, z143_62, z143_63, z143_65, z143_68, z143_70, z143_71, z143_72, z143_75, z143_77, z143_78, z143_81, z143_84, z143_86, sm_cti, sm_ctr, sm_ctn, sm_nbi, Option.toList_some, Option.toList_none, List.cons_append, List.nil_append, ne_eq, reduceCtorEq, not_false_eq_true, Nat.reduceLeDiff, kc26, rc26, rc34, rf26_2, rf26_4, k1, em, e1, e2', c_songAt R1 _ _ _ (show i < 60 by omega), if_true, if_false, not_true_eq_false, not_false_eq_true, and_true, true_and, and_false, false_and, and_self, or_true, true_or, or_false, false_or, reduceIte, iff_self, Int32.add_zero, y_10, Classical.not_not]
      rw [o2]
      refine c_pass hb (cFo_f hF (fun x c h1 h2 => f1 x c (by omega))) (cLw_f hL (fun x c h1 h2 => f1 x c (by omega))) (q := 44) (Or.inr (Or.inl rfl)) (rnt_bd hb _ hg i) t1 (by omega) d n J _ (fun I2 w2 t2 => ?_)
      have f2 : ∀ x c, ¬ (x = 29 ∨ x = 30 ∨ (44 ≤ x ∧ x < 48)) → I2 x c = I x c := fun x c hx => by rw [w2 x c (by omega), f1 x c hx]
      have ej := (hR2.2.2.2.2.2.2.2 i (by omega)).1
      simp only [z143_0, z143_1, z143_2, z143_5, z143_6, z143_7, z143_10, z143_11, z143_12, z143_14, z143_15, z143_18, z143_19, z143_22, z143_25, z143_26, z143_30, z143_32, z143_35, z143_38, z143_40, z143_41, z143_44, z143_45, z143_48, z143_49, z143_52, z143_53, z143_54, z143_56, z143_59, z143_62, z143_63, z143_65, z143_68, z143_70, z143_71, z143_72, z143_75, z143_77, z143_78, z143_81, z143_84, z143_86, sm_cti, sm_ctr, sm_ctn, sm_nbi, Option.toList_some, Option.toList_none, List.cons_append, List.nil_append, ne_eq, reduceCtorEq, not_false_eq_true, Nat.reduceLeDiff, k1, k2, k3, y_inN (show i < 60 by omega) (by decide), nI_clamp (show i < 2 ^ 31 by omega), ej, lg_cmp_eq, i64_inj, nI_1, if_true, if_false, not_true_eq_false, not_false_eq_true, and_true, true_and, and_false, false_and, and_self, or_true, true_or, or_false, false_or, reduceIte, iff_self, Int32.add_zero, y_10, Classical.not_not]
      by_cases h0 : nI (pay P D f a b lo (rnt P D f a b lo (sl el) g i) (sl el i)) = e2 i
      · rw [if_pos (show jok P D f a b lo el e2 m g i = true from decide_eq_true ⟨hin, h0⟩)] at hK
        rw [if_pos h0]
        exact c_ju_lp hb hR hR2 hF hL hg d n K w (i + 1) (by omega) I2 f2 t2 hK
      · rw [if_neg (show ¬ jok P D f a b lo el e2 m g i = true from fun z => h0 (of_decide_eq_true z).2)] at hK
        rw [if_neg h0]
        exact hK I2 f2
    · have e2' : nI (nso D m el) ≤ nI i := nI_le (by omega) (by omega)
      rw [if_neg (show ¬ jok P D f a b lo el e2 m g i = true from fun z => hin (of_decide_eq_true z).1)] at hK
      simp only [z143_0, z143_1, z143_2, z143_5, z143_6, z143_7, z143_10, z143_11, z143_12, z143_14, z143_15, z143_18, z143_19, z143_22, z143_25, z143_26, z143_30, z143_32, z143_35, z143_38, z143_40, z143_41, z143_44, z143_45, z143_48, z143_49, z143_52, z143_53, z143_54, z143_56, z143_59, z143_62, z143_63, z143_65, z143_68, z143_70, z143_71, z143_72, z143_75, z143_77, z143_78, z143_81, z143_84, z143_86, sm_cti, sm_ctr, sm_ctn, sm_nbi, Option.toList_some, Option.toList_none, List.cons_append, List.nil_append, ne_eq, reduceCtorEq, not_false_eq_true, Nat.reduceLeDiff, k1, em, e1, e2', if_true, if_false, not_true_eq_false, not_false_eq_true, and_true, true_and, and_false, false_and, and_self, or_true, true_or, or_false, false_or, reduceIte, iff_self, Int32.add_zero, y_10, Classical.not_not]
      exact hK I1 f1
theorem c_unlike (hb : bdf P D f a b) {s t m s2 t2 m2 : Nat} {el e2 : Nat → Int32} {I : sm_I} {J : sm_J} (hR : rowb s t m el I J) (hR2 : rowb s2 t2 m2 e2 I J) (hF : cFo P D f a b I) (hL : cLw lo I) {g : Nat → Nat} (hg : bdg g) (hT : cTa 40 g I) (d n : Nat) (K : Option Value → sm_H → Prop)
    (hK : ∀ I', (∀ x c, ¬ (x = 29 ∨ x = 30 ∨ (44 ≤ x ∧ x < 48)) → I' x c = I x c) → K (some (.int (fno (jok P D f a b lo el e2 m g) m2 0))) (sm_SH n, I', J)) :
    sm_Ok (d + 5) 143 0 [.ref 26, .int (nI s), .int (nI s2), .null, .null, .null] [] (sm_SH n, I, J) K := by
  have hs2 := hR2.1
  simp only [z143_0, z143_1, z143_2, z143_5, z143_6, z143_7, z143_10, z143_11, z143_12, z143_14, z143_15, z143_18, z143_19, z143_22, z143_25, z143_26, z143_30, z143_32, z143_35, z143_38, z143_40, z143_41, z143_44, z143_45, z143_48, z143_49, z143_52, z143_53, z143_54, z143_56, z143_59, z143_62, z143_63, z143_65, z143_68, z143_70, z143_71, z143_72, z143_75, z143_77, z143_78, z143_81, z143_84, z143_86, sm_cti, sm_ctr, sm_ctn, sm_nbi, Option.toList_some, Option.toList_none, List.cons_append, List.nil_append, ne_eq, reduceCtorEq, not_false_eq_true, Nat.reduceLeDiff, kc26, kc90, rc26, rc44, rf26_3, rf26_4, rf26_12, c_songsOn hR hF.2.1, y_inN hs2 (by decide), nI_clamp (show s2 < 2 ^ 31 by omega), if_true, if_false, not_true_eq_false, not_false_eq_true, and_true, true_and, and_false, false_and, and_self, or_true, true_or, or_false, false_or, reduceIte, iff_self, Int32.add_zero, y_10, Classical.not_not]
  refine c_bec (q := 40) (r := 44) (Or.inl rfl) (Or.inr (Or.inl rfl)) (by decide) hT (d + 3) n J _ (fun I1 w1 t1 => ?_)
  simp only [z143_0, z143_1, z143_2, z143_5, z143_6, z143_7, z143_10, z143_11, z143_12, z143_14, z143_15, z143_18, z143_19, z143_22, z143_25, z143_26, z143_30, z143_32, z143_35, z143_38, z143_40, z143_41, z143_44, z143_45, z143_48, z143_49, z143_52, z143_53, z143_54, z143_56, z143_59, z143_62, z143_63, z143_65, z143_68, z143_70, z143_71, z143_72, z143_75, z143_77, z143_78, z143_81, z143_84, z143_86, sm_cti, sm_ctr, sm_ctn, sm_nbi, Option.toList_some, Option.toList_none, List.cons_append, List.nil_append, ne_eq, reduceCtorEq, not_false_eq_true, Nat.reduceLeDiff, if_true, if_false, not_true_eq_false, not_false_eq_true, and_true, true_and, and_false, false_and, and_self, or_true, true_or, or_false, false_or, reduceIte, iff_self, Int32.add_zero, y_10, Classical.not_not]
  refine c_ju_lp hb hR hR2 hF hL hg d n K m2 0 (by omega) I1 (fun x c hx => w1 x c (by omega)) t1 hK
theorem m_ju_lp (hb : bdf P D f a b) {s t m s2 t2 m2 : Nat} {el e2 : Nat → Int32} {I : sm_I} {J : sm_J} (hR : rowb s t m el I J) (hR2 : rowb s2 t2 m2 e2 I J) (hM : mFo P D f a b I) (hL : mLw lo I) {g : Nat → Nat} (hg : bdg g) (h26 : I 103 26 = nI (nso D m el)) (hs : ∀ j, j < nso D m el → I 116 j = el j) {ss : Int32} (hss : ss - ss / 10 * 10 = nI s2) (d n : Nat) (K : Option Value → sm_H → Prop) : ∀ (w i : Nat), i + w = m2 → ∀ I1 : sm_I, (∀ x c, ¬ ((112 ≤ x ∧ x < 116) ∨ (x = 103 ∧ ((14 ≤ c ∧ c ≤ 18) ∨ c = 23 ∨ c = 24))) → I1 x c = I x c) → mTa P D (rnt P D f a b lo (sl el) g i) I1 →
    (∀ I', (∀ x c, ¬ ((112 ≤ x ∧ x < 116) ∨ (x = 103 ∧ ((14 ≤ c ∧ c ≤ 18) ∨ c = 23 ∨ c = 24))) → I' x c = I x c) → K (some (.int (fno (jok P D f a b lo el e2 m g) w i))) (sm_SH n, I', J)) →
    sm_Ok (d + 49) 206 14 [.ref 103, .int ss, .int (nI i)] [] (sm_SH n, I1, J) K
  | 0, i, hi, I1, f1, t1, hK => by
    have hi : i = m2 := by omega
    subst hi
    have hs2 := hR2.1
    have em : I1 127 s2 = nI i := by rw [f1 _ _ (by omega), hR2.2.2.2.2.2.2.1]
    have t10 : ¬ (10 : Int32) = 0 := by decide
    rw [fno_0] at hK
    rw [z206_14]
    simp only [z206_0, z206_1, z206_2, z206_4, z206_5, z206_8, z206_9, z206_12, z206_13, z206_15, z206_16, z206_19, z206_20, z206_22, z206_23, z206_24, z206_27, z206_28, z206_29, z206_32, z206_35, z206_36, z206_37, z206_38, z206_39, z206_42, z206_43, z206_44, z206_47, z206_48, z206_51, z206_53, z206_54, z206_56, z206_57, z206_58, z206_59, z206_60, z206_61, z206_62, z206_65, z206_66, z206_67, z206_70, z206_71, z206_72, z206_75, z206_78, z206_80, sm_cti, sm_ctr, sm_ctn, sm_nbi, Option.toList_some, Option.toList_none, List.cons_append, List.nil_append, ne_eq, reduceCtorEq, not_false_eq_true, Nat.reduceLeDiff, kc103, kc127, rf103_45, hss, t10, em, Int32.le_refl, y_inN hs2 (by decide), nI_clamp (show s2 < 2 ^ 31 by omega), if_true, if_false, not_true_eq_false, not_false_eq_true, and_true, true_and, and_false, false_and, and_self, or_true, true_or, or_false, false_or, reduceIte, iff_self, Int32.add_zero, y_10, Classical.not_not]
    exact hK I1 f1
  | w + 1, i, hi, I1, f1, t1, hK => by
    have hs2 := hR2.1
    have hm2 := hR2.2.1
    have hn := nso_le D m el
    have hD12 := hb.2.1
    have t10 : ¬ (10 : Int32) = 0 := by decide
    have em : I1 127 s2 = nI m2 := by rw [f1 _ _ (by omega), hR2.2.2.2.2.2.2.1]
    have e1 : ¬ nI m2 ≤ nI i := nI_ge (by omega) (by omega)
    have e26 : I1 103 26 = nI (nso D m el) := by rw [f1 _ _ (by omega), h26]
    rw [fno_s] at hK
    rw [z206_14]
    by_cases hin : i < nso D m el
    · obtain ⟨o1, o2⟩ := nso_ok hb.2.1 hin
      have es : I1 116 i = nI (sl el i) := by rw [f1 _ _ (by omega), hs i (by omega), ← o2]
      have e2' : nI i < nI (nso D m el) := nI_lt hin (by omega)
      simp only [z206_0, z206_1, z206_2, z206_4, z206_5, z206_8, z206_9, z206_12, z206_13, z206_15, z206_16, z206_19, z206_20, z206_22, z206_23, z206_24, z206_27, z206_28, z206_29, z206_32, z206_35, z206_36, z206_37, z206_38, z206_39, z206_42, z206_43, z206_44, z206_47, z206_48, z206_51, z206_53, z206_54, z206_56, z206_57, z206_58, z206_59, z206_60, z206_61, z206_62, z206_65, z206_66, z206_67, z206_70, z206_71, z206_72, z206_75, z206_78, z206_80, sm_cti, sm_ctr, sm_ctn, sm_nbi, Option.toList_some, Option.toList_none, List.cons_append, List.nil_append, ne_eq, reduceCtorEq, not_false_eq_true, Nat.reduceLeDiff, kc103, kc116, kc127, rc103, rf103_25, rf103_45, hss, t10, em, e1, e26, e2', es, y_inN hs2 (by decide), nI_clamp (show s2 < 2 ^ 31 by omega), y_inN (show i < 40 by omega) (by decide), nI_clamp (show i < 2 ^ 31 by omega), if_true, if_false, not_true_eq_false, not_false_eq_true, and_true, true_and, and_false, false_and, and_self, or_true, true_or, or_false, false_or, reduceIte, iff_self, Int32.add_zero, y_10, Classical.not_not]
      refine m_pass hb (mFo_f hM (fun x c hx => f1 x c (by omega))) (mLw_f hL (fun x c hx => f1 x c (by omega))) (rnt_bd hb _ hg i) t1 o1 d n J _ (fun I2 w2 t2 p2 => ?_)
      have f2 : ∀ x c, ¬ ((112 ≤ x ∧ x < 116) ∨ (x = 103 ∧ ((14 ≤ c ∧ c ≤ 18) ∨ c = 23 ∨ c = 24))) → I2 x c = I x c := fun x c hx => by rw [w2 x c (by omega), f1 x c hx]
      have ej := (hR2.2.2.2.2.2.2.2 i (by omega)).2
      simp only [z206_0, z206_1, z206_2, z206_4, z206_5, z206_8, z206_9, z206_12, z206_13, z206_15, z206_16, z206_19, z206_20, z206_22, z206_23, z206_24, z206_27, z206_28, z206_29, z206_32, z206_35, z206_36, z206_37, z206_38, z206_39, z206_42, z206_43, z206_44, z206_47, z206_48, z206_51, z206_53, z206_54, z206_56, z206_57, z206_58, z206_59, z206_60, z206_61, z206_62, z206_65, z206_66, z206_67, z206_70, z206_71, z206_72, z206_75, z206_78, z206_80, sm_cti, sm_ctr, sm_ctn, sm_nbi, Option.toList_some, Option.toList_none, List.cons_append, List.nil_append, ne_eq, reduceCtorEq, not_false_eq_true, Nat.reduceLeDiff, kc103, kc128, rf103_46, hss, t10, p2, y_60, nI_add, y_inN (show 60 * s2 + i < 360 by omega) (by decide), nI_clamp (show 60 * s2 + i < 2 ^ 31 by omega), ej, lg_cmp_eq, i64_inj, nI_1, if_true, if_false, not_true_eq_false, not_false_eq_true, and_true, true_and, and_false, false_and, and_self, or_true, true_or, or_false, false_or, reduceIte, iff_self, Int32.add_zero, y_10, Classical.not_not]
      by_cases h0 : nI (pay P D f a b lo (rnt P D f a b lo (sl el) g i) (sl el i)) = e2 i
      · rw [if_pos (show jok P D f a b lo el e2 m g i = true from decide_eq_true ⟨hin, h0⟩)] at hK
        rw [if_pos h0.symm]
        exact m_ju_lp hb hR hR2 hM hL hg h26 hs hss d n K w (i + 1) (by omega) I2 f2 t2 hK
      · rw [if_neg (show ¬ jok P D f a b lo el e2 m g i = true from fun z => h0 (of_decide_eq_true z).2)] at hK
        rw [if_neg (fun z => h0 z.symm)]
        exact hK I2 f2
    · have e2' : ¬ nI i < nI (nso D m el) := nI_nlt (by omega) (by omega)
      rw [if_neg (show ¬ jok P D f a b lo el e2 m g i = true from fun z => hin (of_decide_eq_true z).1)] at hK
      simp only [z206_0, z206_1, z206_2, z206_4, z206_5, z206_8, z206_9, z206_12, z206_13, z206_15, z206_16, z206_19, z206_20, z206_22, z206_23, z206_24, z206_27, z206_28, z206_29, z206_32, z206_35, z206_36, z206_37, z206_38, z206_39, z206_42, z206_43, z206_44, z206_47, z206_48, z206_51, z206_53, z206_54, z206_56, z206_57, z206_58, z206_59, z206_60, z206_61, z206_62, z206_65, z206_66, z206_67, z206_70, z206_71, z206_72, z206_75, z206_78, z206_80, sm_cti, sm_ctr, sm_ctn, sm_nbi, Option.toList_some, Option.toList_none, List.cons_append, List.nil_append, ne_eq, reduceCtorEq, not_false_eq_true, Nat.reduceLeDiff, kc103, kc127, rf103_45, hss, t10, em, e1, e26, e2', y_inN hs2 (by decide), nI_clamp (show s2 < 2 ^ 31 by omega), if_true, if_false, not_true_eq_false, not_false_eq_true, and_true, true_and, and_false, false_and, and_self, or_true, true_or, or_false, false_or, reduceIte, iff_self, Int32.add_zero, y_10, Classical.not_not]
      exact hK I1 f1
theorem m_false (hb : bdf P D f a b) {s t m s2 t2 m2 : Nat} {el e2 : Nat → Int32} {I : sm_I} {J : sm_J} (hR : rowb s t m el I J) (hR2 : rowb s2 t2 m2 e2 I J) (hM : mFo P D f a b I) (hL : mLw lo I) {ss : Int32} (hs1 : ss / 10 = nI s) (hss : ss - ss / 10 * 10 = nI s2) (d n : Nat) (K : Option Value → sm_H → Prop)
    (hK : ∀ I', (∀ x c, ¬ ((112 ≤ x ∧ x < 117) ∨ (x = 103 ∧ 14 ≤ c ∧ c ≤ 26)) → I' x c = I x c) → K (some (.int (fno (jok P D f a b lo el e2 m f) m2 0))) (sm_SH n, I', J)) :
    sm_Ok (d + 49) 206 0 [.ref 103, .int ss, .null] [] (sm_SH n, I, J) K := by
  have hg : bdg f := fun k k1 k2 k3 => hb.2.2.1 k k2
  have t10 : ¬ (10 : Int32) = 0 := by decide
  simp only [z206_0, z206_1, z206_2, z206_4, z206_5, z206_8, z206_9, z206_12, z206_13, z206_15, z206_16, z206_19, z206_20, z206_22, z206_23, z206_24, z206_27, z206_28, z206_29, z206_32, z206_35, z206_36, z206_37, z206_38, z206_39, z206_42, z206_43, z206_44, z206_47, z206_48, z206_51, z206_53, z206_54, z206_56, z206_57, z206_58, z206_59, z206_60, z206_61, z206_62, z206_65, z206_66, z206_67, z206_70, z206_71, z206_72, z206_75, z206_78, z206_80, sm_cti, sm_ctr, sm_ctn, sm_nbi, Option.toList_some, Option.toList_none, List.cons_append, List.nil_append, ne_eq, reduceCtorEq, not_false_eq_true, Nat.reduceLeDiff, rc103, hs1, t10, if_true, if_false, not_true_eq_false, not_false_eq_true, and_true, true_and, and_false, false_and, and_self, or_true, true_or, or_false, false_or, reduceIte, iff_self, Int32.add_zero, y_10, Classical.not_not]
  refine m_takesSongs hR hM.2.1 hb.2.1 (d + 46) n _ (fun I1 w1 s1 s3 => ?_)
  simp only [z206_0, z206_1, z206_2, z206_4, z206_5, z206_8, z206_9, z206_12, z206_13, z206_15, z206_16, z206_19, z206_20, z206_22, z206_23, z206_24, z206_27, z206_28, z206_29, z206_32, z206_35, z206_36, z206_37, z206_38, z206_39, z206_42, z206_43, z206_44, z206_47, z206_48, z206_51, z206_53, z206_54, z206_56, z206_57, z206_58, z206_59, z206_60, z206_61, z206_62, z206_65, z206_66, z206_67, z206_70, z206_71, z206_72, z206_75, z206_78, z206_80, sm_cti, sm_ctr, sm_ctn, sm_nbi, Option.toList_some, Option.toList_none, List.cons_append, List.nil_append, ne_eq, reduceCtorEq, not_false_eq_true, Nat.reduceLeDiff, rc103, if_true, if_false, not_true_eq_false, not_false_eq_true, and_true, true_and, and_false, false_and, and_self, or_true, true_or, or_false, false_or, reduceIte, iff_self, Int32.add_zero, y_10, Classical.not_not]
  have mF1 := mFo_f hM (I' := I1) (fun x c hx => w1 x c (by omega))
  refine m_begins hb mF1 _ n J _ (fun I2 w2 t2' => ?_)
  simp only [z206_0, z206_1, z206_2, z206_4, z206_5, z206_8, z206_9, z206_12, z206_13, z206_15, z206_16, z206_19, z206_20, z206_22, z206_23, z206_24, z206_27, z206_28, z206_29, z206_32, z206_35, z206_36, z206_37, z206_38, z206_39, z206_42, z206_43, z206_44, z206_47, z206_48, z206_51, z206_53, z206_54, z206_56, z206_57, z206_58, z206_59, z206_60, z206_61, z206_62, z206_65, z206_66, z206_67, z206_70, z206_71, z206_72, z206_75, z206_78, z206_80, sm_cti, sm_ctr, sm_ctn, sm_nbi, Option.toList_some, Option.toList_none, List.cons_append, List.nil_append, ne_eq, reduceCtorEq, not_false_eq_true, Nat.reduceLeDiff, if_true, if_false, not_true_eq_false, not_false_eq_true, and_true, true_and, and_false, false_and, and_self, or_true, true_or, or_false, false_or, reduceIte, iff_self, Int32.add_zero, y_10, Classical.not_not]
  refine m_ju_lp hb (rowb_f hR (fun x c hx => by rw [w2 x c (by omega), w1 x c (by omega)])) (rowb_f hR2 (fun x c hx => by rw [w2 x c (by omega), w1 x c (by omega)])) (mFo_f mF1 (fun x c hx => w2 x c (by omega))) (mLw_f hL (fun x c hx => by rw [w2 x c (by omega), w1 x c (by omega)])) hg (by rw [w2 _ _ (by omega), s1]) (fun j hj => by rw [w2 _ _ (by omega), s3 j hj]) hss d n K m2 0 (by omega) I2 (fun x c _ => rfl) t2' (fun I' w3 => ?_)
  exact hK I' (fun x c hx => by rw [w3 x c (by omega), w2 x c (by omega), w1 x c (by omega)])
end
def pairOk (ss : Int32) : Prop := 0 ≤ ss ∧ (0 ≤ ss / 10 ∧ ss / 10 ≤ 5) ∧ (0 ≤ ss - ss / 10 * 10 ∧ ss - ss / 10 * 10 ≤ 5)
theorem c_pair (d n : Nat) (I : sm_I) (J : sm_J) (K : Option Value → sm_H → Prop) (ss : Int32) : sm_Ok (d + 2) 128 0 [.int ss] [] (sm_SH n, I, J) K ↔ (pairOk ss ∧ K (some (.int 1)) (sm_SH n, I, J)) ∨ (¬ pairOk ss ∧ K (some (.int 0)) (sm_SH n, I, J)) := by
  have t10 : ¬ (10 : Int32) = 0 := by decide
  simp only [z128_29_0, z128_29_1, z128_0, z128_1, z128_4, z128_5, z128_7, z128_8, z128_11, z128_14, z128_15, z128_17, z128_18, z128_21, z128_24, z128_25, z128_28, z128_29, sm_cti, sm_ctr, sm_ctn, sm_nbi, Option.toList_some, Option.toList_none, List.cons_append, List.nil_append, ne_eq, reduceCtorEq, not_false_eq_true, Nat.reduceLeDiff, y_isShelf, y_bit, y_lt, t10, if_true, if_false, not_true_eq_false, not_false_eq_true, and_true, true_and, and_false, false_and, and_self, or_true, true_or, or_false, false_or, reduceIte, iff_self, Int32.add_zero, y_10, Classical.not_not]
  unfold pairOk
  by_cases g0 : 0 ≤ ss
  · by_cases g1 : 0 ≤ ss / 10 ∧ ss / 10 ≤ 5
    · by_cases g2 : 0 ≤ ss - ss / 10 * 10 ∧ ss - ss / 10 * 10 ≤ 5
      · simp only [g0, g1, g2, if_true, if_false, not_true_eq_false, not_false_eq_true, and_true, true_and, and_false, false_and, and_self, or_true, true_or, or_false, false_or, reduceIte, iff_self, Int32.add_zero, y_10, Classical.not_not]
      · simp only [g0, g1, g2, if_true, if_false, not_true_eq_false, not_false_eq_true, and_true, true_and, and_false, false_and, and_self, or_true, true_or, or_false, false_or, reduceIte, iff_self, Int32.add_zero, y_10, Classical.not_not]
    · simp only [g0, g1, if_true, if_false, not_true_eq_false, not_false_eq_true, and_true, true_and, and_false, false_and, and_self, or_true, true_or, or_false, false_or, reduceIte, iff_self, Int32.add_zero, y_10, Classical.not_not]
  · simp only [g0, if_true, if_false, not_true_eq_false, not_false_eq_true, and_true, true_and, and_false, false_and, and_self, or_true, true_or, or_false, false_or, reduceIte, iff_self, Int32.add_zero, y_10, Classical.not_not]
/-- the ledger's look: a refusal, the same of both; or two rows -/
theorem led_look {B : Nat} {I : sm_I} {J : sm_J} (hB : B ≤ 50) (hS : iv_sh B I J) {ss : Int32} {s s2 : Nat} (hs : s < 6) (hs2 : s2 < 6) (e1 : ss / 10 = nI s) (e2 : ss - ss / 10 * 10 = nI s2) (h0 : 0 ≤ ss) :
    (∃ r : Int32, (r = -11 ∨ r = -12) ∧ (∀ (d n : Nat) (K : Option Value → sm_H → Prop), sm_Ok (d + 3) 136 0 [.ref 26, .int ss, .null] [] (sm_SH n, I, J) K ↔ K (some (.int r)) (sm_SH n, I, J)) ∧ (∀ (I1 : sm_I), I1 126 = I 126 → ∀ (d n : Nat) (K : Option Value → sm_H → Prop), sm_Ok (d + 3) 205 0 [.ref 103, .int ss] [] (sm_SH n, I1, J) K ↔ K (some (.int r)) (sm_SH n, I1, J)))
    ∨ ((∀ (d n : Nat) (K : Option Value → sm_H → Prop), sm_Ok (d + 3) 136 0 [.ref 26, .int ss, .null] [] (sm_SH n, I, J) K ↔ K (some (.int 0)) (sm_SH n, I, J)) ∧ (∀ (I1 : sm_I), I1 126 = I 126 → ∀ (d n : Nat) (K : Option Value → sm_H → Prop), sm_Ok (d + 3) 205 0 [.ref 103, .int ss] [] (sm_SH n, I1, J) K ↔ K (some (.int 1)) (sm_SH n, I1, J)) ∧ ∃ m el m2 el2, rowb s 0 m el I J ∧ rowb s2 1 m2 el2 I J) := by
  have t10 : ¬ (10 : Int32) = 0 := by decide
  have e3 : ss - nI s * 10 = nI s2 := by rw [← e1]; exact e2
  have g1 := y_sh5 hs
  have g2 := y_sh5 hs2
  have n0 : ¬ ss < 0 := Int32.not_lt.mpr h0
  have c1 := nI_clamp (show s < 2 ^ 31 by omega)
  have c2 := nI_clamp (show s2 < 2 ^ 31 by omega)
  have one : (0 : Int32) ≤ 1 := by decide
  rcases row_look hB hS hs (t := 0) (by decide) with ⟨r, hr, h1, h2⟩ | ⟨h1, h2, m, el, hR⟩
  · rw [nI_0] at h1
    rw [nI_0, Int32.add_zero] at h2
    have r0 : ¬ r = 0 := by rcases hr with rfl | rfl <;> decide
    have r1 : ¬ 0 ≤ r := by rcases hr with rfl | rfl <;> decide
    refine Or.inl ⟨r, hr, fun d n K => ?_, fun I1 hI1 d n K => ?_⟩
    · simp only [z136_0, z136_1, z136_2, z136_4, z136_5, z136_6, z136_9, z136_10, z136_11, z136_14, z136_15, z136_18, z136_19, z136_20, z136_22, z136_23, z136_24, z136_27, sm_cti, sm_ctr, sm_ctn, sm_nbi, Option.toList_some, Option.toList_none, List.cons_append, List.nil_append, ne_eq, reduceCtorEq, not_false_eq_true, Nat.reduceLeDiff, rc26, t10, e1, h1, r0, if_true, if_false, not_true_eq_false, not_false_eq_true, and_true, true_and, and_false, false_and, and_self, or_true, true_or, or_false, false_or, reduceIte, iff_self, Int32.add_zero, y_10, Classical.not_not]
    · simp only [z205_0, z205_1, z205_4, z205_5, z205_7, z205_8, z205_11, z205_14, z205_15, z205_17, z205_18, z205_21, z205_24, z205_25, z205_26, z205_27, z205_28, z205_30, z205_31, z205_32, z205_35, z205_38, z205_39, z205_40, z205_42, z205_43, z205_44, z205_47, z205_50, z205_51, z205_52, z205_54, z205_55, z205_56, z205_59, sm_cti, sm_ctr, sm_ctn, sm_nbi, Option.toList_some, Option.toList_none, List.cons_append, List.nil_append, ne_eq, reduceCtorEq, not_false_eq_true, Nat.reduceLeDiff, rc103, t10, e1, e3, n0, m_isShelf, m_rowIs, g1, g2, y_bit, c1, hI1, h2, r1, if_true, if_false, not_true_eq_false, not_false_eq_true, and_true, true_and, and_false, false_and, and_self, or_true, true_or, or_false, false_or, reduceIte, iff_self, Int32.add_zero, y_10, Classical.not_not]
  · rw [nI_0] at h1
    rw [nI_0, Int32.add_zero] at h2
    rcases row_look hB hS hs2 (t := 1) (by decide) with ⟨r, hr, h3, h4⟩ | ⟨h3, h4, m2, el2, hR2⟩
    · have r0 : ¬ r = 0 := by rcases hr with rfl | rfl <;> decide
      rw [show nI 1 = 1 from rfl] at h3 h4
      refine Or.inl ⟨r, hr, fun d n K => ?_, fun I1 hI1 d n K => ?_⟩
      · simp only [z136_0, z136_1, z136_2, z136_4, z136_5, z136_6, z136_9, z136_10, z136_11, z136_14, z136_15, z136_18, z136_19, z136_20, z136_22, z136_23, z136_24, z136_27, sm_cti, sm_ctr, sm_ctn, sm_nbi, Option.toList_some, Option.toList_none, List.cons_append, List.nil_append, ne_eq, reduceCtorEq, not_false_eq_true, Nat.reduceLeDiff, rc26, t10, e1, e3, h1, h3, if_true, if_false, not_true_eq_false, not_false_eq_true, and_true, true_and, and_false, false_and, and_self, or_true, true_or, or_false, false_or, reduceIte, iff_self, Int32.add_zero, y_10, Classical.not_not]
      · simp only [z205_0, z205_1, z205_4, z205_5, z205_7, z205_8, z205_11, z205_14, z205_15, z205_17, z205_18, z205_21, z205_24, z205_25, z205_26, z205_27, z205_28, z205_30, z205_31, z205_32, z205_35, z205_38, z205_39, z205_40, z205_42, z205_43, z205_44, z205_47, z205_50, z205_51, z205_52, z205_54, z205_55, z205_56, z205_59, sm_cti, sm_ctr, sm_ctn, sm_nbi, Option.toList_some, Option.toList_none, List.cons_append, List.nil_append, ne_eq, reduceCtorEq, not_false_eq_true, Nat.reduceLeDiff, rc103, t10, e1, e3, n0, m_isShelf, m_rowIs, g1, g2, y_bit, c1, c2, hI1, h2, h4, one, if_true, if_false, not_true_eq_false, not_false_eq_true, and_true, true_and, and_false, false_and, and_self, or_true, true_or, or_false, false_or, reduceIte, iff_self, Int32.add_zero, y_10, Classical.not_not]
    · rw [show nI 1 = 1 from rfl] at h3 h4
      refine Or.inr ⟨fun d n K => ?_, fun I1 hI1 d n K => ?_, m, el, m2, el2, hR, hR2⟩
      · simp only [z136_0, z136_1, z136_2, z136_4, z136_5, z136_6, z136_9, z136_10, z136_11, z136_14, z136_15, z136_18, z136_19, z136_20, z136_22, z136_23, z136_24, z136_27, sm_cti, sm_ctr, sm_ctn, sm_nbi, Option.toList_some, Option.toList_none, List.cons_append, List.nil_append, ne_eq, reduceCtorEq, not_false_eq_true, Nat.reduceLeDiff, rc26, t10, e1, e3, h1, h3, if_true, if_false, not_true_eq_false, not_false_eq_true, and_true, true_and, and_false, false_and, and_self, or_true, true_or, or_false, false_or, reduceIte, iff_self, Int32.add_zero, y_10, Classical.not_not]
      · simp only [z205_0, z205_1, z205_4, z205_5, z205_7, z205_8, z205_11, z205_14, z205_15, z205_17, z205_18, z205_21, z205_24, z205_25, z205_26, z205_27, z205_28, z205_30, z205_31, z205_32, z205_35, z205_38, z205_39, z205_40, z205_42, z205_43, z205_44, z205_47, z205_50, z205_51, z205_52, z205_54, z205_55, z205_56, z205_59, sm_cti, sm_ctr, sm_ctn, sm_nbi, Option.toList_some, Option.toList_none, List.cons_append, List.nil_append, ne_eq, reduceCtorEq, not_false_eq_true, Nat.reduceLeDiff, rc103, t10, e1, e3, n0, m_isShelf, m_rowIs, g1, g2, y_bit, c1, c2, hI1, h2, h4, one, if_true, if_false, not_true_eq_false, not_false_eq_true, and_true, true_and, and_false, false_and, and_self, or_true, true_or, or_false, false_or, reduceIte, iff_self, Int32.add_zero, y_10, Classical.not_not]
theorem m_ledB {I : sm_I} {ss : Int32} (h : ¬ pairOk ss) (d n : Nat) (J : sm_J) (K : Option Value → sm_H → Prop) : sm_Ok (d + 3) 205 0 [.ref 103, .int ss] [] (sm_SH n, I, J) K ↔ K (some (.int (-1))) (sm_SH n, I, J) := by
  have t10 : ¬ (10 : Int32) = 0 := by decide
  simp only [z205_0, z205_1, z205_4, z205_5, z205_7, z205_8, z205_11, z205_14, z205_15, z205_17, z205_18, z205_21, z205_24, z205_25, z205_26, z205_27, z205_28, z205_30, z205_31, z205_32, z205_35, z205_38, z205_39, z205_40, z205_42, z205_43, z205_44, z205_47, z205_50, z205_51, z205_52, z205_54, z205_55, z205_56, z205_59, sm_cti, sm_ctr, sm_ctn, sm_nbi, Option.toList_some, Option.toList_none, List.cons_append, List.nil_append, ne_eq, reduceCtorEq, not_false_eq_true, Nat.reduceLeDiff, rc103, t10, m_isShelf, y_bit, y_lt, if_true, if_false, not_true_eq_false, not_false_eq_true, and_true, true_and, and_false, false_and, and_self, or_true, true_or, or_false, false_or, reduceIte, iff_self, Int32.add_zero, y_10, Classical.not_not]
  unfold pairOk at h
  by_cases g0 : 0 ≤ ss
  · by_cases g1 : 0 ≤ ss / 10 ∧ ss / 10 ≤ 5
    · have g2 : ¬ (0 ≤ ss - ss / 10 * 10 ∧ ss - ss / 10 * 10 ≤ 5) := fun z => h ⟨g0, g1, z⟩
      simp only [g0, g1, g2, if_true, if_false, not_true_eq_false, not_false_eq_true, and_true, true_and, and_false, false_and, and_self, or_true, true_or, or_false, false_or, reduceIte, iff_self, Int32.add_zero, y_10, Classical.not_not]
    · simp only [g0, g1, if_true, if_false, not_true_eq_false, not_false_eq_true, and_true, true_and, and_false, false_and, and_self, or_true, true_or, or_false, false_or, reduceIte, iff_self, Int32.add_zero, y_10, Classical.not_not]
  · simp only [g0, if_true, if_false, not_true_eq_false, not_false_eq_true, and_true, true_and, and_false, false_and, and_self, or_true, true_or, or_false, false_or, reduceIte, iff_self, Int32.add_zero, y_10, Classical.not_not]
theorem pw_judge {n : Nat} {xs : Nat → Int32} {I : sm_I} {J : sm_J} (hI : Inv xs I J) (ss : Int32) : pw n I J 103 [.ref 26, .int ss, .null] 207 [.ref 103, .int ss] (fun I2 J2 => Inv xs I2 J2) := by
  obtain ⟨P, D, B, i1, i2, i3, i4, i5, i6, i7, i8⟩ := id hI
  obtain ⟨f, a, b, hb, cF, cT, mF, hz⟩ := fo_pure i2
  obtain ⟨lo, cl, ml⟩ := la_lo i5
  have hB := i7.1
  have t10 : ¬ (10 : Int32) = 0 := by decide
  have hg : bdg f := fun k k1 k2 k3 => hb.2.2.1 k k2
  intro d K hK
  by_cases hp : pairOk ss
  · obtain ⟨h0, h1, h2⟩ := id hp
    obtain ⟨s, hs, e1⟩ := y_idx6 h1
    obtain ⟨s2, hs2, e2⟩ := y_idx6 h2
    have e3 : ss - nI s * 10 = nI s2 := by rw [← e1]; exact e2
    simp only [z103_0, z103_1, z103_4, z103_7, z103_8, z103_9, z103_10, z103_11, z103_14, z103_15, z103_16, z103_19, z103_20, z103_23, z103_24, z103_25, z103_27, z103_28, z103_29, z103_31, z103_32, z103_35, sm_cti, sm_ctr, sm_ctn, sm_nbi, Option.toList_some, Option.toList_none, List.cons_append, List.nil_append, ne_eq, reduceCtorEq, not_false_eq_true, Nat.reduceLeDiff]
    rw [c_pair]
    refine Or.inl ⟨hp, ?_⟩
    simp only [z103_0, z103_1, z103_4, z103_7, z103_8, z103_9, z103_10, z103_11, z103_14, z103_15, z103_16, z103_19, z103_20, z103_23, z103_24, z103_25, z103_27, z103_28, z103_29, z103_31, z103_32, z103_35, sm_cti, sm_ctr, sm_ctn, sm_nbi, Option.toList_some, Option.toList_none, List.cons_append, List.nil_append, ne_eq, reduceCtorEq, not_false_eq_true, Nat.reduceLeDiff, rc26, if_true, if_false, not_true_eq_false, not_false_eq_true, and_true, true_and, and_false, false_and, and_self, or_true, true_or, or_false, false_or, reduceIte, iff_self, Int32.add_zero, y_10, Classical.not_not]
    rcases led_look hB i8 hs hs2 e1 e2 h0 with ⟨r, hr, l1, l2⟩ | ⟨l1, l2, m, el, m2, el2, hR, hR2⟩
    · have r0 : ¬ r = 0 := by rcases hr with rfl | rfl <;> decide
      have r1 : ¬ 0 ≤ r := by rcases hr with rfl | rfl <;> decide
      simp only [z103_0, z103_1, z103_4, z103_7, z103_8, z103_9, z103_10, z103_11, z103_14, z103_15, z103_16, z103_19, z103_20, z103_23, z103_24, z103_25, z103_27, z103_28, z103_29, z103_31, z103_32, z103_35, sm_cti, sm_ctr, sm_ctn, sm_nbi, Option.toList_some, Option.toList_none, List.cons_append, List.nil_append, ne_eq, reduceCtorEq, not_false_eq_true, Nat.reduceLeDiff, l1, r0, if_true, if_false, not_true_eq_false, not_false_eq_true, and_true, true_and, and_false, false_and, and_self, or_true, true_or, or_false, false_or, reduceIte, iff_self, Int32.add_zero, y_10, Classical.not_not]
      refine hK r I J (fun K2 h3 => ?_)
      simp only [z207_0, z207_1, z207_2, z207_5, z207_8, z207_9, z207_10, z207_13, z207_16, z207_17, z207_18, z207_21, sm_cti, sm_ctr, sm_ctn, sm_nbi, Option.toList_some, Option.toList_none, List.cons_append, List.nil_append, ne_eq, reduceCtorEq, not_false_eq_true, Nat.reduceLeDiff, rc103, l2 I rfl, r1, if_true, if_false, not_true_eq_false, not_false_eq_true, and_true, true_and, and_false, false_and, and_self, or_true, true_or, or_false, false_or, reduceIte, iff_self, Int32.add_zero, y_10, Classical.not_not]
      exact h3 I J hI
    · simp only [z103_0, z103_1, z103_4, z103_7, z103_8, z103_9, z103_10, z103_11, z103_14, z103_15, z103_16, z103_19, z103_20, z103_23, z103_24, z103_25, z103_27, z103_28, z103_29, z103_31, z103_32, z103_35, sm_cti, sm_ctr, sm_ctn, sm_nbi, Option.toList_some, Option.toList_none, List.cons_append, List.nil_append, ne_eq, reduceCtorEq, not_false_eq_true, Nat.reduceLeDiff, rc26, l1, t10, e1, e3, if_true, if_false, not_true_eq_false, not_false_eq_true, and_true, true_and, and_false, false_and, and_self, or_true, true_or, or_false, false_or, reduceIte, iff_self, Int32.add_zero, y_10, Classical.not_not]
      refine c_unlike hb hR hR2 cF cl hg cT (d + 194) n _ (fun I1 w1 => ?_)
      simp only [z103_0, z103_1, z103_4, z103_7, z103_8, z103_9, z103_10, z103_11, z103_14, z103_15, z103_16, z103_19, z103_20, z103_23, z103_24, z103_25, z103_27, z103_28, z103_29, z103_31, z103_32, z103_35, sm_cti, sm_ctr, sm_ctn, sm_nbi, Option.toList_some, Option.toList_none, List.cons_append, List.nil_append, ne_eq, reduceCtorEq, not_false_eq_true, Nat.reduceLeDiff, if_true, if_false, not_true_eq_false, not_false_eq_true, and_true, true_and, and_false, false_and, and_self, or_true, true_or, or_false, false_or, reduceIte, iff_self, Int32.add_zero, y_10, Classical.not_not]
      refine hK _ I1 J (fun K2 h3 => ?_)
      have e126 : I1 126 = I 126 := funext (fun c => w1 126 c (by omega))
      have one : (0 : Int32) ≤ 1 := by decide
      simp only [z207_0, z207_1, z207_2, z207_5, z207_8, z207_9, z207_10, z207_13, z207_16, z207_17, z207_18, z207_21, sm_cti, sm_ctr, sm_ctn, sm_nbi, Option.toList_some, Option.toList_none, List.cons_append, List.nil_append, ne_eq, reduceCtorEq, not_false_eq_true, Nat.reduceLeDiff, rc103, l2 I1 e126, one, if_true, if_false, not_true_eq_false, not_false_eq_true, and_true, true_and, and_false, false_and, and_self, or_true, true_or, or_false, false_or, reduceIte, iff_self, Int32.add_zero, y_10, Classical.not_not]
      refine m_false hb (rowb_f hR (fun x c hx => w1 x c (by omega))) (rowb_f hR2 (fun x c hx => w1 x c (by omega))) (mFo_f mF (fun x c hx => w1 x c (by omega))) (mLw_f ml (fun x c hx => w1 x c (by omega))) e1 e2 (d + 150) n _ (fun I2 w2 => ?_)
      simp only [z207_0, z207_1, z207_2, z207_5, z207_8, z207_9, z207_10, z207_13, z207_16, z207_17, z207_18, z207_21, sm_cti, sm_ctr, sm_ctn, sm_nbi, Option.toList_some, Option.toList_none, List.cons_append, List.nil_append, ne_eq, reduceCtorEq, not_false_eq_true, Nat.reduceLeDiff, if_true, if_false, not_true_eq_false, not_false_eq_true, and_true, true_and, and_false, false_and, and_self, or_true, true_or, or_false, false_or, reduceIte, iff_self, Int32.add_zero, y_10, Classical.not_not]
      exact h3 I2 J (Inv_0 hI (ag0 (fun x c hx => by rw [w2 x c (by omega), w1 x c (by omega)])))
  · simp only [z103_0, z103_1, z103_4, z103_7, z103_8, z103_9, z103_10, z103_11, z103_14, z103_15, z103_16, z103_19, z103_20, z103_23, z103_24, z103_25, z103_27, z103_28, z103_29, z103_31, z103_32, z103_35, sm_cti, sm_ctr, sm_ctn, sm_nbi, Option.toList_some, Option.toList_none, List.cons_append, List.nil_append, ne_eq, reduceCtorEq, not_false_eq_true, Nat.reduceLeDiff]
    rw [c_pair]
    refine Or.inr ⟨hp, ?_⟩
    simp only [z103_0, z103_1, z103_4, z103_7, z103_8, z103_9, z103_10, z103_11, z103_14, z103_15, z103_16, z103_19, z103_20, z103_23, z103_24, z103_25, z103_27, z103_28, z103_29, z103_31, z103_32, z103_35, sm_cti, sm_ctr, sm_ctn, sm_nbi, Option.toList_some, Option.toList_none, List.cons_append, List.nil_append, ne_eq, reduceCtorEq, not_false_eq_true, Nat.reduceLeDiff, if_true, if_false, not_true_eq_false, not_false_eq_true, and_true, true_and, and_false, false_and, and_self, or_true, true_or, or_false, false_or, reduceIte, iff_self, Int32.add_zero, y_10, Classical.not_not]
    refine hK (-1) I J (fun K2 h3 => ?_)
    have m1 : ¬ (0 : Int32) ≤ -1 := by decide
    simp only [z207_0, z207_1, z207_2, z207_5, z207_8, z207_9, z207_10, z207_13, z207_16, z207_17, z207_18, z207_21, sm_cti, sm_ctr, sm_ctn, sm_nbi, Option.toList_some, Option.toList_none, List.cons_append, List.nil_append, ne_eq, reduceCtorEq, not_false_eq_true, Nat.reduceLeDiff, rc103, m_ledB hp, m1, if_true, if_false, not_true_eq_false, not_false_eq_true, and_true, true_and, and_false, false_and, and_self, or_true, true_or, or_false, false_or, reduceIte, iff_self, Int32.add_zero, y_10, Classical.not_not]
    exact h3 I J hI
