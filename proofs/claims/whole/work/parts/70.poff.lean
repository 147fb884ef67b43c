/-! both answer alike: paidOff -/
section
variable {P D : Nat} {f a b : Nat → Nat} {lo : Option ((Nat → Nat) × Nat)}
def nzo (P D : Nat) (f a b : Nat → Nat) (lo : Option ((Nat → Nat) × Nat)) (el : Nat → Int32) (g : Nat → Nat) (e i : Nat) : Bool := decide (¬ rnt P D f a b lo (sl el) g i (40 + e) = 0)
def pofv (P D : Nat) (f a b : Nat → Nat) (lo : Option ((Nat → Nat) × Nat)) (el : Nat → Int32) (g : Nat → Nat) (e k w i : Nat) : Int32 := if lead (nzo P D f a b lo el g e) w i < i + w then nI (lead (nzo P D f a b lo el g e) w i) else if rnt P D f a b lo (sl el) g k (40 + e) = 0 then nI k else -2
theorem pofv_s (el : Nat → Int32) (g : Nat → Nat) (e k w i : Nat) : pofv P D f a b lo el g e k (w + 1) i = if nzo P D f a b lo el g e i = true then pofv P D f a b lo el g e k w (i + 1) else nI i := by
  unfold pofv
  rw [show lead (nzo P D f a b lo el g e) (w + 1) i = if nzo P D f a b lo el g e i = true then lead (nzo P D f a b lo el g e) w (i + 1) else i from rfl]
  by_cases h : nzo P D f a b lo el g e i = true
  · simp only [if_pos h, show i + 1 + w = i + (w + 1) by omega]
  · simp only [if_neg h, show i < i + (w + 1) by omega, if_true]
theorem pofv_0 (el : Nat → Int32) (g : Nat → Nat) (e k i : Nat) : pofv P D f a b lo el g e k 0 i = if rnt P D f a b lo (sl el) g k (40 + e) = 0 then nI k else -2 := by
  unfold pofv
  rw [if_neg]
  unfold lead
  omega
theorem c_po_lp (hb : bdf P D f a b) {s t m : Nat} {el : Nat → Int32} {I : sm_I} {J : sm_J} (hR : rowb s t m el I J) (hF : cFo P D f a b I) (hL : cLw lo I) {g : Nat → Nat} (hg : bdg g) {k : Nat} (hk : k ≤ nso D m el) {e : Nat} (he : e < D) (x3 : Int32) (d n : Nat) (K : Option Value → sm_H → Prop) : ∀ (w i : Nat), i + w = k → ∀ I1 : sm_I, (∀ x c, ¬ (x = 29 ∨ x = 30 ∨ (44 ≤ x ∧ x < 48)) → I1 x c = I x c) → cTa 44 (rnt P D f a b lo (sl el) g i) I1 →
    (∀ I', (∀ x c, ¬ (x = 29 ∨ x = 30 ∨ (44 ≤ x ∧ x < 48)) → I' x c = I x c) → K (some (.int (pofv P D f a b lo el g e k w i))) (sm_SH n, I', J)) →
    sm_Ok (d + 5) 94 54 [.ref 26, .int (nI s), .int (nI e), .int x3, .int (nI k), .int (nI i)] [] (sm_SH n, I1, J) K
  | 0, i, hi, I1, f1, t1, hK => by
    have hi : i = k := by omega
    subst hi
    have hD12 := hb.2.1
    rw [pofv_0] at hK
    have g1 := rnt_bd (lo := lo) hb (sl el) hg i (40 + e) (by omega) (by omega) (by omega)
    have tt1 := top_le (40 + e)
    have e0 : (nI (rnt P D f a b lo (sl el) g i (40 + e)) = 0) = (rnt P D f a b lo (sl el) g i (40 + e) = 0) := propext (nI_eq (b := 0) (by omega) (by decide))
    rw [z94_54]
    simp only [z94_0, z94_1, z94_4, z94_7, z94_8, z94_11, z94_12, z94_15, z94_18, z94_19, z94_20, z94_21, z94_22, z94_23, z94_26, z94_27, z94_28, z94_31, z94_32, z94_33, z94_34, z94_35, z94_38, z94_40, z94_41, z94_44, z94_45, z94_48, z94_51, z94_52, z94_56, z94_58, z94_61, z94_62, z94_65, z94_68, z94_69, z94_70, z94_73, z94_75, z94_76, z94_77, z94_80, z94_81, z94_84, z94_85, z94_86, z94_88, z94_91, z94_94, z94_95, z94_98, z94_101, z94_102, z94_105, z94_108, z94_109, z94_110, z94_113, z94_115, z94_118, z94_120, sm_cti, sm_ctr, sm_ctn, sm_nbi, Option.toList_some, Option.toList_none, List.cons_append, List.nil_append, ne_eq, reduceCtorEq, not_false_eq_true, Nat.reduceLeDiff, kc26, kc44, kc47, rf26_4, rf44_2, Int32.le_refl, t1.2.1 e (by omega), e0, y_inN (show e < 12 by omega) (by decide), nI_clamp (show e < 2 ^ 31 by omega), if_true, if_false, not_true_eq_false, not_false_eq_true, and_true, true_and, and_false, false_and, and_self, or_true, true_or, or_false, false_or, reduceIte, iff_self, Int32.add_zero, y_10, Classical.not_not]
    have fin := hK I1 f1
    by_cases h0 : rnt P D f a b lo (sl el) g i (40 + e) = 0
    · rw [if_pos h0] at fin
      simp only [h0, if_true, if_false, not_true_eq_false, not_false_eq_true, and_true, true_and, and_false, false_and, and_self, or_true, true_or, or_false, false_or, reduceIte, iff_self, Int32.add_zero, y_10, Classical.not_not]
      exact fin
    · rw [if_neg h0] at fin
      simp only [h0, if_true, if_false, not_true_eq_false, not_false_eq_true, and_true, true_and, and_false, false_and, and_self, or_true, true_or, or_false, false_or, reduceIte, iff_self, Int32.add_zero, y_10, Classical.not_not]
      exact fin
  | w + 1, i, hi, I1, f1, t1, hK => by
    have hik : i < k := by omega
    have hn := nso_le D m el
    have hm := hR.2.1
    have hD12 := hb.2.1
    obtain ⟨o1, o2⟩ := nso_ok hb.2.1 (show i < nso D m el by omega)
    have R1 : rowb s t m el I1 J := rowb_f hR (fun x c hx => f1 x c (by omega))
    have g1 := rnt_bd (lo := lo) hb (sl el) hg i (40 + e) (by omega) (by omega) (by omega)
    have tt1 := top_le (40 + e)
    have e0 : (nI (rnt P D f a b lo (sl el) g i (40 + e)) = 0) = (rnt P D f a b lo (sl el) g i (40 + e) = 0) := propext (nI_eq (b := 0) (by omega) (by decide))
    rw [pofv_s] at hK
    rw [z94_54]
    simp only [z94_0, z94_1, z94_4, z94_7, z94_8, z94_11, z94_12, z94_15, z94_18, z94_19, z94_20, z94_21, z94_22, z94_23, z94_26, z94_27, z94_28, z94_31, z94_32, z94_33, z94_34, z94_35, z94_38, z94_40, z94_41, z94_44, z94_45, z94_48, z94_51, z94_52, z94_56, z94_58, z94_61, z94_62, z94_65, z94_68, z94_69, z94_70, z94_73, z94_75, z94_76, z94_77, z94_80, z94_81, z94_84, z94_85, z94_86, z94_88, z94_91, z94_94, z94_95, z94_98, z94_101, z94_102, z94_105, z94_108, z94_109, z94_110, z94_113, z94_115, z94_118, z94_120, sm_cti, sm_ctr, sm_ctn, sm_nbi, Option.toList_some, Option.toList_none, List.cons_append, List.nil_append, ne_eq, reduceCtorEq, not_false_eq_true, Nat.reduceLeDiff, kc26, kc44, kc47, rc26, rc34, rf26_2, rf26_4, rf44_2, if_neg (nI_ge hik (show k < 2 ^ 31 by omega)), t1.2.1 e (by omega), e0, c_songAt R1 _ _ _ (show i < 60 by omega), y_inN (show e < 12 by omega) (by decide), nI_clamp (show e < 2 ^ 31 by omega), if_true, if_false, not_true_eq_false, not_false_eq_true, and_true, true_and, and_false, false_and, and_self, or_true, true_or, or_false, false_or, reduceIte, iff_self, Int32.add_zero, y_10, Classical.not_not]
    by_cases h0 : rnt P D f a b lo (sl el) g i (40 + e) = 0
    · rw [if_neg (show ¬ nzo P D f a b lo el g e i = true from fun z => (of_decide_eq_true z) h0)] at hK
      simp only [h0, if_true, if_false, not_true_eq_false, not_false_eq_true, and_true, true_and, and_false, false_and, and_self, or_true, true_or, or_false, false_or, reduceIte, iff_self, Int32.add_zero, y_10, Classical.not_not]
      exact hK I1 f1
    · rw [if_pos (show nzo P D f a b lo el g e i = true from decide_eq_true h0)] at hK
      simp only [h0, if_true, if_false, not_true_eq_false, not_false_eq_true, and_true, true_and, and_false, false_and, and_self, or_true, true_or, or_false, false_or, reduceIte, iff_self, Int32.add_zero, y_10, Classical.not_not]
      rw [o2]
      refine c_pass hb (cFo_f hF (fun x c h1 h2 => f1 x c (by omega))) (cLw_f hL (fun x c h1 h2 => f1 x c (by omega))) (q := 44) (Or.inr (Or.inl rfl)) (rnt_bd hb _ hg i) t1 (by omega) d n J _ (fun I2 w2 t2 => ?_)
      simp only [z94_0, z94_1, z94_4, z94_7, z94_8, z94_11, z94_12, z94_15, z94_18, z94_19, z94_20, z94_21, z94_22, z94_23, z94_26, z94_27, z94_28, z94_31, z94_32, z94_33, z94_34, z94_35, z94_38, z94_40, z94_41, z94_44, z94_45, z94_48, z94_51, z94_52, z94_56, z94_58, z94_61, z94_62, z94_65, z94_68, z94_69, z94_70, z94_73, z94_75, z94_76, z94_77, z94_80, z94_81, z94_84, z94_85, z94_86, z94_88, z94_91, z94_94, z94_95, z94_98, z94_101, z94_102, z94_105, z94_108, z94_109, z94_110, z94_113, z94_115, z94_118, z94_120, sm_cti, sm_ctr, sm_ctn, sm_nbi, Option.toList_some, Option.toList_none, List.cons_append, List.nil_append, ne_eq, reduceCtorEq, not_false_eq_true, Nat.reduceLeDiff, nI_1, if_true, if_false, not_true_eq_false, not_false_eq_true, and_true, true_and, and_false, false_and, and_self, or_true, true_or, or_false, false_or, reduceIte, iff_self, Int32.add_zero, y_10, Classical.not_not]
      exact c_po_lp hb hR hF hL hg hk he x3 d n K w (i + 1) (by omega) I2 (fun x c hx => by rw [w2 x c (by omega), f1 x c hx]) t2 hK
theorem m_po_lp (hb : bdf P D f a b) {s t m : Nat} {el : Nat → Int32} {I : sm_I} {J : sm_J} (hR : rowb s t m el I J) (hM : mFo P D f a b I) (hL : mLw lo I) {g : Nat → Nat} (hg : bdg g) (h26 : I 103 26 = nI (nso D m el)) (hs : ∀ j, j < nso D m el → I 116 j = el j) {e : Nat} (he : e < D) (x1 : Value) (d n : Nat) (K : Option Value → sm_H → Prop) : ∀ (w i : Nat), i + w = nso D m el → ∀ I1 : sm_I, (∀ x c, ¬ ((112 ≤ x ∧ x < 116) ∨ (x = 103 ∧ ((14 ≤ c ∧ c ≤ 18) ∨ c = 23 ∨ c = 24))) → I1 x c = I x c) → mTa P D (rnt P D f a b lo (sl el) g i) I1 →
    (∀ I', (∀ x c, ¬ ((112 ≤ x ∧ x < 116) ∨ (x = 103 ∧ ((14 ≤ c ∧ c ≤ 18) ∨ c = 23 ∨ c = 24))) → I' x c = I x c) → K (some (.int (pofv P D f a b lo el g e (nso D m el) w i))) (sm_SH n, I', J)) →
    sm_Ok (d + 49) 190 48 [.ref 103, x1, .int (nI e), .int (nI i)] [] (sm_SH n, I1, J) K
  | 0, i, hi, I1, f1, t1, hK => by
    have hn := nso_le D m el
    have hD12 := hb.2.1
    have hi : i = nso D m el := by omega
    have e26 : I1 103 26 = nI (nso D m el) := by rw [f1 _ _ (by omega), h26]
    rw [pofv_0] at hK
    rw [← hi] at hK e26
    have g1 := rnt_bd (lo := lo) hb (sl el) hg i (40 + e) (by omega) (by omega) (by omega)
    have tt1 := top_le (40 + e)
    have e0 : (nI (rnt P D f a b lo (sl el) g i (40 + e)) = 0) = (rnt P D f a b lo (sl el) g i (40 + e) = 0) := propext (nI_eq (b := 0) (by omega) (by decide))
    have fin := hK I1 f1
    rw [z190_48]
    simp only [z190_0, z190_1, z190_2, z190_3, z190_6, z190_7, z190_10, z190_11, z190_12, z190_13, z190_16, z190_19, z190_20, z190_21, z190_22, z190_23, z190_24, z190_27, z190_30, z190_31, z190_32, z190_33, z190_36, z190_37, z190_38, z190_39, z190_42, z190_43, z190_46, z190_47, z190_49, z190_50, z190_53, z190_56, z190_57, z190_60, z190_61, z190_62, z190_65, z190_66, z190_67, z190_68, z190_69, z190_72, z190_73, z190_74, z190_77, z190_80, z190_83, z190_84, z190_87, z190_88, z190_89, z190_92, z190_93, z190_96, z190_99, z190_101, sm_cti, sm_ctr, sm_ctn, sm_nbi, Option.toList_some, Option.toList_none, List.cons_append, List.nil_append, ne_eq, reduceCtorEq, not_false_eq_true, Nat.reduceLeDiff, kc103, kc115, rf103_22, e26, Int32.le_refl, t1.2.1 e he, e0, y_inN (show e < 12 by omega) (by decide), nI_clamp (show e < 2 ^ 31 by omega), if_true, if_false, not_true_eq_false, not_false_eq_true, and_true, true_and, and_false, false_and, and_self, or_true, true_or, or_false, false_or, reduceIte, iff_self, Int32.add_zero, y_10, Classical.not_not]
    by_cases h0 : rnt P D f a b lo (sl el) g i (40 + e) = 0
    · rw [if_pos h0] at fin
      simp only [h0, if_true, if_false, not_true_eq_false, not_false_eq_true, and_true, true_and, and_false, false_and, and_self, or_true, true_or, or_false, false_or, reduceIte, iff_self, Int32.add_zero, y_10, Classical.not_not]
      exact fin
    · rw [if_neg h0] at fin
      simp only [h0, if_true, if_false, not_true_eq_false, not_false_eq_true, and_true, true_and, and_false, false_and, and_self, or_true, true_or, or_false, false_or, reduceIte, iff_self, Int32.add_zero, y_10, Classical.not_not]
      exact fin
  | w + 1, i, hi, I1, f1, t1, hK => by
    have hn := nso_le D m el
    have hD12 := hb.2.1
    obtain ⟨o1, o2⟩ := nso_ok hb.2.1 (show i < nso D m el by omega)
    have e26 : I1 103 26 = nI (nso D m el) := by rw [f1 _ _ (by omega), h26]
    have es : I1 116 i = nI (sl el i) := by rw [f1 _ _ (by omega), hs i (by omega), ← o2]
    have e2 : ¬ nI (nso D m el) ≤ nI i := nI_ge (by omega) (by omega)
    have g1 := rnt_bd (lo := lo) hb (sl el) hg i (40 + e) (by omega) (by omega) (by omega)
    have tt1 := top_le (40 + e)
    have e0 : (nI (rnt P D f a b lo (sl el) g i (40 + e)) = 0) = (rnt P D f a b lo (sl el) g i (40 + e) = 0) := propext (nI_eq (b := 0) (by omega) (by decide))
    rw [pofv_s] at hK
    rw [z190_48]
    simp only [z190_0, z190_1, z190_2, z190_3, z190_6, z190_7, z190_10, z190_11, z190_12, z190_13, z190_16, z190_19, z190_20, z190_21, z190_22, z190_23, z190_24, z190_27, z190_30, z190_31, z190_32, z190_33, z190_36, z190_37, z190_38, z190_39, z190_42, z190_43, z190_46, z190_47, z190_49, z190_50, z190_53, z190_56, z190_57, z190_60, z190_61, z190_62, z190_65, z190_66, z190_67, z190_68, z190_69, z190_72, z190_73, z190_74, z190_77, z190_80, z190_83, z190_84, z190_87, z190_88, z190_89, z190_92, z190_93, z190_96, z190_99, z190_101, sm_cti, sm_ctr, sm_ctn, sm_nbi, Option.toList_some, Option.toList_none, List.cons_append, List.nil_append, ne_eq, reduceCtorEq, not_false_eq_true, Nat.reduceLeDiff, kc103, kc115, kc116, rc103, rf103_22, rf103_25, e26, e2, es, t1.2.1 e he, e0, y_inN (show i < 40 by omega) (by decide), nI_clamp (show i < 2 ^ 31 by omega), y_inN (show e < 12 by omega) (by decide), nI_clamp (show e < 2 ^ 31 by omega), if_true, if_false, not_true_eq_false, not_false_eq_true, and_true, true_and, and_false, false_and, and_self, or_true, true_or, or_false, false_or, reduceIte, iff_self, Int32.add_zero, y_10, Classical.not_not]
    by_cases h0 : rnt P D f a b lo (sl el) g i (40 + e) = 0
    · rw [if_neg (show ¬ nzo P D f a b lo el g e i = true from fun z => (of_decide_eq_true z) h0)] at hK
      simp only [h0, if_true, if_false, not_true_eq_false, not_false_eq_true, and_true, true_and, and_false, false_and, and_self, or_true, true_or, or_false, false_or, reduceIte, iff_self, Int32.add_zero, y_10, Classical.not_not]
      exact hK I1 f1
    · rw [if_pos (show nzo P D f a b lo el g e i = true from decide_eq_true h0)] at hK
      simp only [h0, if_true, if_false, not_true_eq_false, not_false_eq_true, and_true, true_and, and_false, false_and, and_self, or_true, true_or, or_false, false_or, reduceIte, iff_self, Int32.add_zero, y_10, Classical.not_not]
      refine m_pass hb (mFo_f hM (fun x c hx => f1 x c (by omega))) (mLw_f hL (fun x c hx => f1 x c (by omega))) (rnt_bd hb _ hg i) t1 o1 d n J _ (fun I2 w2 t2 p2 => ?_)
      simp only [z190_0, z190_1, z190_2, z190_3, z190_6, z190_7, z190_10, z190_11, z190_12, z190_13, z190_16, z190_19, z190_20, z190_21, z190_22, z190_23, z190_24, z190_27, z190_30, z190_31, z190_32, z190_33, z190_36, z190_37, z190_38, z190_39, z190_42, z190_43, z190_46, z190_47, z190_49, z190_50, z190_53, z190_56, z190_57, z190_60, z190_61, z190_62, z190_65, z190_66, z190_67, z190_68, z190_69, z190_72, z190_73, z190_74, z190_77, z190_80, z190_83, z190_84, z190_87, z190_88, z190_89, z190_92, z190_93, z190_96, z190_99, z190_101, sm_cti, sm_ctr, sm_ctn, sm_nbi, Option.toList_some, Option.toList_none, List.cons_append, List.nil_append, ne_eq, reduceCtorEq, not_false_eq_true, Nat.reduceLeDiff, nI_1, if_true, if_false, not_true_eq_false, not_false_eq_true, and_true, true_and, and_false, false_and, and_self, or_true, true_or, or_false, false_or, reduceIte, iff_self, Int32.add_zero, y_10, Classical.not_not]
      exact m_po_lp hb hR hM hL hg h26 hs he x1 d n K w (i + 1) (by omega) I2 (fun x c hx => by rw [w2 x c (by omega), f1 x c hx]) t2 hK
end
theorem pw_paidOff {n : Nat} {xs : Nat → Int32} {I : sm_I} {J : sm_J} (hI : Inv xs I J) (x q : Int32) : pw n I J 94 [.ref 26, .int x, .int q, .null, .null, .null] 190 [.ref 103, .int x, .int q, .null] (fun I2 J2 => Inv xs I2 J2) := by
  obtain ⟨P, D, B, i1, i2, i3, i4, i5, i6, i7, i8⟩ := id hI
  obtain ⟨f, a, b, hb, cF, cT, mF, hz⟩ := fo_pure i2
  obtain ⟨lo, cl, ml⟩ := la_lo i5
  have hB := i7.1
  have h8 := hb.1
  have h12 := hb.2.1
  have hg : bdg f := fun k k1 k2 k3 => hb.2.2.1 k k2
  intro d K hK
  by_cases g1 : 0 ≤ x ∧ x ≤ 5
  · by_cases g2 : 0 ≤ q ∧ q < nI D
    · obtain ⟨s, hs, rfl⟩ := y_idx6 g1
      obtain ⟨e, he, rfl⟩ := y_idx (show D < 2 ^ 31 by omega) g2
      have cs := nI_clamp (show s < 2 ^ 31 by omega)
      simp only [z94_0, z94_1, z94_4, z94_7, z94_8, z94_11, z94_12, z94_15, z94_18, z94_19, z94_20, z94_21, z94_22, z94_23, z94_26, z94_27, z94_28, z94_31, z94_32, z94_33, z94_34, z94_35, z94_38, z94_40, z94_41, z94_44, z94_45, z94_48, z94_51, z94_52, z94_56, z94_58, z94_61, z94_62, z94_65, z94_68, z94_69, z94_70, z94_73, z94_75, z94_76, z94_77, z94_80, z94_81, z94_84, z94_85, z94_86, z94_88, z94_91, z94_94, z94_95, z94_98, z94_101, z94_102, z94_105, z94_108, z94_109, z94_110, z94_113, z94_115, z94_118, z94_120, sm_cti, sm_ctr, sm_ctn, sm_nbi, Option.toList_some, Option.toList_none, List.cons_append, List.nil_append, ne_eq, reduceCtorEq, not_false_eq_true, Nat.reduceLeDiff, kc26, rc26, rc34, rf26_2, y_isShelf, y_isDebt, cF.2.1, y_bit, g1, g2, if_true, if_false, not_true_eq_false, not_false_eq_true, and_true, true_and, and_false, false_and, and_self, or_true, true_or, or_false, false_or, reduceIte, iff_self, Int32.add_zero, y_10, Classical.not_not]
      rcases row_look hB i8 hs (t := 0) (by decide) with ⟨r, hr, h1, h2⟩ | ⟨h1, h2, m, el, hR⟩
      · rw [nI_0] at h1
        rw [nI_0, Int32.add_zero] at h2
        have r0 : ¬ r = 0 := by rcases hr with rfl | rfl <;> decide
        have r1 : r < 0 := by rcases hr with rfl | rfl <;> decide
        have r2 : ¬ 0 ≤ r := Int32.not_le.mpr r1
        have rm : ¬ r = -1 := by rcases hr with rfl | rfl <;> decide
        simp only [z94_0, z94_1, z94_4, z94_7, z94_8, z94_11, z94_12, z94_15, z94_18, z94_19, z94_20, z94_21, z94_22, z94_23, z94_26, z94_27, z94_28, z94_31, z94_32, z94_33, z94_34, z94_35, z94_38, z94_40, z94_41, z94_44, z94_45, z94_48, z94_51, z94_52, z94_56, z94_58, z94_61, z94_62, z94_65, z94_68, z94_69, z94_70, z94_73, z94_75, z94_76, z94_77, z94_80, z94_81, z94_84, z94_85, z94_86, z94_88, z94_91, z94_94, z94_95, z94_98, z94_101, z94_102, z94_105, z94_108, z94_109, z94_110, z94_113, z94_115, z94_118, z94_120, sm_cti, sm_ctr, sm_ctn, sm_nbi, Option.toList_some, Option.toList_none, List.cons_append, List.nil_append, ne_eq, reduceCtorEq, not_false_eq_true, Nat.reduceLeDiff, h1, r0, if_true, if_false, not_true_eq_false, not_false_eq_true, and_true, true_and, and_false, false_and, and_self, or_true, true_or, or_false, false_or, reduceIte, iff_self, Int32.add_zero, y_10, Classical.not_not]
        refine hK r I J (fun K2 h3 => ?_)
        simp only [z190_0, z190_1, z190_2, z190_3, z190_6, z190_7, z190_10, z190_11, z190_12, z190_13, z190_16, z190_19, z190_20, z190_21, z190_22, z190_23, z190_24, z190_27, z190_30, z190_31, z190_32, z190_33, z190_36, z190_37, z190_38, z190_39, z190_42, z190_43, z190_46, z190_47, z190_49, z190_50, z190_53, z190_56, z190_57, z190_60, z190_61, z190_62, z190_65, z190_66, z190_67, z190_68, z190_69, z190_72, z190_73, z190_74, z190_77, z190_80, z190_83, z190_84, z190_87, z190_88, z190_89, z190_92, z190_93, z190_96, z190_99, z190_101, sm_cti, sm_ctr, sm_ctn, sm_nbi, Option.toList_some, Option.toList_none, List.cons_append, List.nil_append, ne_eq, reduceCtorEq, not_false_eq_true, Nat.reduceLeDiff, rc103, m_rowIs, m_isDebtX (show D < 2 ^ 31 by omega) mF.2.1, y_bit, g1, g2, cs, h2, r2, rm, if_true, if_false, not_true_eq_false, not_false_eq_true, and_true, true_and, and_false, false_and, and_self, or_true, true_or, or_false, false_or, reduceIte, iff_self, Int32.add_zero, y_10, Classical.not_not]
        exact h3 I J hI
      · rw [nI_0] at h1
        rw [nI_0, Int32.add_zero] at h2
        have one : (0 : Int32) ≤ 1 := by decide
        have onem : ¬ (1 : Int32) = -1 := by decide
        simp only [z94_0, z94_1, z94_4, z94_7, z94_8, z94_11, z94_12, z94_15, z94_18, z94_19, z94_20, z94_21, z94_22, z94_23, z94_26, z94_27, z94_28, z94_31, z94_32, z94_33, z94_34, z94_35, z94_38, z94_40, z94_41, z94_44, z94_45, z94_48, z94_51, z94_52, z94_56, z94_58, z94_61, z94_62, z94_65, z94_68, z94_69, z94_70, z94_73, z94_75, z94_76, z94_77, z94_80, z94_81, z94_84, z94_85, z94_86, z94_88, z94_91, z94_94, z94_95, z94_98, z94_101, z94_102, z94_105, z94_108, z94_109, z94_110, z94_113, z94_115, z94_118, z94_120, sm_cti, sm_ctr, sm_ctn, sm_nbi, Option.toList_some, Option.toList_none, List.cons_append, List.nil_append, ne_eq, reduceCtorEq, not_false_eq_true, Nat.reduceLeDiff, kc26, rc26, rc44, rf26_3, rf26_4, h1, c_songsOn hR cF.2.1, if_true, if_false, not_true_eq_false, not_false_eq_true, and_true, true_and, and_false, false_and, and_self, or_true, true_or, or_false, false_or, reduceIte, iff_self, Int32.add_zero, y_10, Classical.not_not]
        refine c_bec (q := 40) (r := 44) (Or.inl rfl) (Or.inr (Or.inl rfl)) (by decide) cT (d + 198) n J _ (fun I1 w1 t1 => ?_)
        simp only [z94_0, z94_1, z94_4, z94_7, z94_8, z94_11, z94_12, z94_15, z94_18, z94_19, z94_20, z94_21, z94_22, z94_23, z94_26, z94_27, z94_28, z94_31, z94_32, z94_33, z94_34, z94_35, z94_38, z94_40, z94_41, z94_44, z94_45, z94_48, z94_51, z94_52, z94_56, z94_58, z94_61, z94_62, z94_65, z94_68, z94_69, z94_70, z94_73, z94_75, z94_76, z94_77, z94_80, z94_81, z94_84, z94_85, z94_86, z94_88, z94_91, z94_94, z94_95, z94_98, z94_101, z94_102, z94_105, z94_108, z94_109, z94_110, z94_113, z94_115, z94_118, z94_120, sm_cti, sm_ctr, sm_ctn, sm_nbi, Option.toList_some, Option.toList_none, List.cons_append, List.nil_append, ne_eq, reduceCtorEq, not_false_eq_true, Nat.reduceLeDiff, if_true, if_false, not_true_eq_false, not_false_eq_true, and_true, true_and, and_false, false_and, and_self, or_true, true_or, or_false, false_or, reduceIte, iff_self, Int32.add_zero, y_10, Classical.not_not]
        refine c_po_lp hb hR cF cl hg (Nat.le_refl _) he _ (d + 195) n K (nso D m el) 0 (by omega) I1 (fun x c hx => w1 x c (by omega)) t1 (fun I2 w2 => ?_)
        refine hK _ I2 J (fun K2 h3 => ?_)
        have mF2 : mFo P D f a b I2 := mFo_f mF (fun x c hx => w2 x c (by omega))
        have R2 : rowb s 0 m el I2 J := rowb_f hR (fun x c hx => w2 x c (by omega))
        have h2' : (if I2 126 s < 0 then -11 else if I2 126 s = 50 then 1 else -12) = (1 : Int32) := by rw [w2 _ _ (by omega)]; exact h2
        simp only [z190_0, z190_1, z190_2, z190_3, z190_6, z190_7, z190_10, z190_11, z190_12, z190_13, z190_16, z190_19, z190_20, z190_21, z190_22, z190_23, z190_24, z190_27, z190_30, z190_31, z190_32, z190_33, z190_36, z190_37, z190_38, z190_39, z190_42, z190_43, z190_46, z190_47, z190_49, z190_50, z190_53, z190_56, z190_57, z190_60, z190_61, z190_62, z190_65, z190_66, z190_67, z190_68, z190_69, z190_72, z190_73, z190_74, z190_77, z190_80, z190_83, z190_84, z190_87, z190_88, z190_89, z190_92, z190_93, z190_96, z190_99, z190_101, sm_cti, sm_ctr, sm_ctn, sm_nbi, Option.toList_some, Option.toList_none, List.cons_append, List.nil_append, ne_eq, reduceCtorEq, not_false_eq_true, Nat.reduceLeDiff, rc103, m_rowIs, m_isDebtX (show D < 2 ^ 31 by omega) mF2.2.1, y_bit, g1, g2, cs, h2', one, onem, if_true, if_false, not_true_eq_false, not_false_eq_true, and_true, true_and, and_false, false_and, and_self, or_true, true_or, or_false, false_or, reduceIte, iff_self, Int32.add_zero, y_10, Classical.not_not]
        refine m_takesSongs R2 mF2.2.1 h12 (d + 197) n _ (fun I3 w3 s1 s2 => ?_)
        simp only [z190_0, z190_1, z190_2, z190_3, z190_6, z190_7, z190_10, z190_11, z190_12, z190_13, z190_16, z190_19, z190_20, z190_21, z190_22, z190_23, z190_24, z190_27, z190_30, z190_31, z190_32, z190_33, z190_36, z190_37, z190_38, z190_39, z190_42, z190_43, z190_46, z190_47, z190_49, z190_50, z190_53, z190_56, z190_57, z190_60, z190_61, z190_62, z190_65, z190_66, z190_67, z190_68, z190_69, z190_72, z190_73, z190_74, z190_77, z190_80, z190_83, z190_84, z190_87, z190_88, z190_89, z190_92, z190_93, z190_96, z190_99, z190_101, sm_cti, sm_ctr, sm_ctn, sm_nbi, Option.toList_some, Option.toList_none, List.cons_append, List.nil_append, ne_eq, reduceCtorEq, not_false_eq_true, Nat.reduceLeDiff, rc103, if_true, if_false, not_true_eq_false, not_false_eq_true, and_true, true_and, and_false, false_and, and_self, or_true, true_or, or_false, false_or, reduceIte, iff_self, Int32.add_zero, y_10, Classical.not_not]
        have mF3 := mFo_f mF2 (I' := I3) (fun x c hx => w3 x c (by omega))
        refine m_begins hb mF3 _ n J _ (fun I4 w4 t4 => ?_)
        simp only [z190_0, z190_1, z190_2, z190_3, z190_6, z190_7, z190_10, z190_11, z190_12, z190_13, z190_16, z190_19, z190_20, z190_21, z190_22, z190_23, z190_24, z190_27, z190_30, z190_31, z190_32, z190_33, z190_36, z190_37, z190_38, z190_39, z190_42, z190_43, z190_46, z190_47, z190_49, z190_50, z190_53, z190_56, z190_57, z190_60, z190_61, z190_62, z190_65, z190_66, z190_67, z190_68, z190_69, z190_72, z190_73, z190_74, z190_77, z190_80, z190_83, z190_84, z190_87, z190_88, z190_89, z190_92, z190_93, z190_96, z190_99, z190_101, sm_cti, sm_ctr, sm_ctn, sm_nbi, Option.toList_some, Option.toList_none, List.cons_append, List.nil_append, ne_eq, reduceCtorEq, not_false_eq_true, Nat.reduceLeDiff, if_true, if_false, not_true_eq_false, not_false_eq_true, and_true, true_and, and_false, false_and, and_self, or_true, true_or, or_false, false_or, reduceIte, iff_self, Int32.add_zero, y_10, Classical.not_not]
        refine m_po_lp hb (rowb_f R2 (fun x c hx => by rw [w4 x c (by omega), w3 x c (by omega)])) (mFo_f mF3 (fun x c hx => w4 x c (by omega))) (mLw_f ml (fun x c hx => by rw [w4 x c (by omega), w3 x c (by omega), w2 x c (by omega)])) hg (by rw [w4 _ _ (by omega), s1]) (fun j hj => by rw [w4 _ _ (by omega), s2 j hj]) he _ (d + 151) n K2 (nso D m el) 0 (by omega) I4 (fun x c _ => rfl) t4 (fun I5 w5 => ?_)
        exact h3 I5 J (Inv_0 hI (ag0 (fun x c hx => by rw [w5 x c (by omega), w4 x c (by omega), w3 x c (by omega), w2 x c (by omega)])))
    · simp only [z94_0, z94_1, z94_4, z94_7, z94_8, z94_11, z94_12, z94_15, z94_18, z94_19, z94_20, z94_21, z94_22, z94_23, z94_26, z94_27, z94_28, z94_31, z94_32, z94_33, z94_34, z94_35, z94_38, z94_40, z94_41, z94_44, z94_45, z94_48, z94_51, z94_52, z94_56, z94_58, z94_61, z94_62, z94_65, z94_68, z94_69, z94_70, z94_73, z94_75, z94_76, z94_77, z94_80, z94_81, z94_84, z94_85, z94_86, z94_88, z94_91, z94_94, z94_95, z94_98, z94_101, z94_102, z94_105, z94_108, z94_109, z94_110, z94_113, z94_115, z94_118, z94_120, sm_cti, sm_ctr, sm_ctn, sm_nbi, Option.toList_some, Option.toList_none, List.cons_append, List.nil_append, ne_eq, reduceCtorEq, not_false_eq_true, Nat.reduceLeDiff, kc26, rc26, rc34, rf26_2, y_isShelf, y_isDebt, cF.2.1, y_bit, g1, g2, if_true, if_false, not_true_eq_false, not_false_eq_true, and_true, true_and, and_false, false_and, and_self, or_true, true_or, or_false, false_or, reduceIte, iff_self, Int32.add_zero, y_10, Classical.not_not]
      refine hK (-1) I J (fun K2 h3 => ?_)
      simp only [z190_0, z190_1, z190_2, z190_3, z190_6, z190_7, z190_10, z190_11, z190_12, z190_13, z190_16, z190_19, z190_20, z190_21, z190_22, z190_23, z190_24, z190_27, z190_30, z190_31, z190_32, z190_33, z190_36, z190_37, z190_38, z190_39, z190_42, z190_43, z190_46, z190_47, z190_49, z190_50, z190_53, z190_56, z190_57, z190_60, z190_61, z190_62, z190_65, z190_66, z190_67, z190_68, z190_69, z190_72, z190_73, z190_74, z190_77, z190_80, z190_83, z190_84, z190_87, z190_88, z190_89, z190_92, z190_93, z190_96, z190_99, z190_101, sm_cti, sm_ctr, sm_ctn, sm_nbi, Option.toList_some, Option.toList_none, List.cons_append, List.nil_append, ne_eq, reduceCtorEq, not_false_eq_true, Nat.reduceLeDiff, rc103, m_rowIs, m_rowR, m_rowR2, m_isDebtX (show D < 2 ^ 31 by omega) mF.2.1, y_bit, g1, g2, if_true, if_false, not_true_eq_false, not_false_eq_true, and_true, true_and, and_false, false_and, and_self, or_true, true_or, or_false, false_or, reduceIte, iff_self, Int32.add_zero, y_10, Classical.not_not]
      exact h3 I J hI
  · simp only [z94_0, z94_1, z94_4, z94_7, z94_8, z94_11, z94_12, z94_15, z94_18, z94_19, z94_20, z94_21, z94_22, z94_23, z94_26, z94_27, z94_28, z94_31, z94_32, z94_33, z94_34, z94_35, z94_38, z94_40, z94_41, z94_44, z94_45, z94_48, z94_51, z94_52, z94_56, z94_58, z94_61, z94_62, z94_65, z94_68, z94_69, z94_70, z94_73, z94_75, z94_76, z94_77, z94_80, z94_81, z94_84, z94_85, z94_86, z94_88, z94_91, z94_94, z94_95, z94_98, z94_101, z94_102, z94_105, z94_108, z94_109, z94_110, z94_113, z94_115, z94_118, z94_120, sm_cti, sm_ctr, sm_ctn, sm_nbi, Option.toList_some, Option.toList_none, List.cons_append, List.nil_append, ne_eq, reduceCtorEq, not_false_eq_true, Nat.reduceLeDiff, y_isShelf, y_bit, g1, if_true, if_false, not_true_eq_false, not_false_eq_true, and_true, true_and, and_false, false_and, and_self, or_true, true_or, or_false, false_or, reduceIte, iff_self, Int32.add_zero, y_10, Classical.not_not]
    refine hK (-1) I J (fun K2 h3 => ?_)
    simp only [z190_0, z190_1, z190_2, z190_3, z190_6, z190_7, z190_10, z190_11, z190_12, z190_13, z190_16, z190_19, z190_20, z190_21, z190_22, z190_23, z190_24, z190_27, z190_30, z190_31, z190_32, z190_33, z190_36, z190_37, z190_38, z190_39, z190_42, z190_43, z190_46, z190_47, z190_49, z190_50, z190_53, z190_56, z190_57, z190_60, z190_61, z190_62, z190_65, z190_66, z190_67, z190_68, z190_69, z190_72, z190_73, z190_74, z190_77, z190_80, z190_83, z190_84, z190_87, z190_88, z190_89, z190_92, z190_93, z190_96, z190_99, z190_101, sm_cti, sm_ctr, sm_ctn, sm_nbi, Option.toList_some, Option.toList_none, List.cons_append, List.nil_append, ne_eq, reduceCtorEq, not_false_eq_true, Nat.reduceLeDiff, rc103, m_rowIs, m_rowR, y_bit, g1, if_true, if_false, not_true_eq_false, not_false_eq_true, and_true, true_and, and_false, false_and, and_self, or_true, true_or, or_false, false_or, reduceIte, iff_self, Int32.add_zero, y_10, Classical.not_not]
    exact h3 I J hI
