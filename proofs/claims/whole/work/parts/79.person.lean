/-! both answer alike: person -/
def pef (f : Nat → Nat) (P v : Nat) : Nat → Nat := fun k => if k = P then v else if k = 8 + P then 5 else if k = 16 + P then 6 else if k = 24 + P then 50 else f k
section
variable {P D : Nat} {f a b : Nat → Nat}
def cPe (I : sm_I) (P : Nat) (v : Int32) : sm_I := sm_uI (sm_uI (sm_uI (sm_uI (sm_uI (sm_uI I 35 P v) 36 P 5) 37 P 6) 34 6 (nI (P + 1))) 41 P 50) 42 P 0
def mPe (I : sm_I) (P : Nat) (v : Int32) : sm_I := sm_uI (sm_uI (sm_uI (sm_uI (sm_uI I 104 P v) 104 (8 + P) 5) 104 (16 + P) 6) 104 (24 + P) 50) 103 6 (nI (P + 1))
theorem c_moveIn {I : sm_I} (hP : P < 8) (h6 : I 34 6 = nI P) (d n : Nat) (J : sm_J) (K : Option Value → sm_H → Prop) (v : Int32) : sm_Ok d 8 0 [.ref 34, .int v] [] (sm_SH n, I, J) K ↔ K none (sm_SH n, sm_uI (sm_uI (sm_uI (sm_uI I 35 P v) 36 P 5) 37 P 6) 34 6 (nI (P + 1)), J) := by
  have e8 : ¬ (8 : Int32) ≤ nI P := fun z => absurd ((nI_ltI (b := 8) (by omega) (by decide)).mpr hP) (Int32.not_lt.mpr z)
  have q1 : sm_uI I 35 P v 34 6 = nI P := by rw [uI_q _ _ (by omega), h6]
  have q2 : sm_uI (sm_uI I 35 P v) 36 P 5 34 6 = nI P := by rw [uI_q _ _ (by omega), q1]
  have q3 : sm_uI (sm_uI (sm_uI I 35 P v) 36 P 5) 37 P 6 34 6 = nI P := by rw [uI_q _ _ (by omega), q2]
  simp only [z8_0, z8_1, z8_4, z8_6, z8_9, z8_10, z8_13, z8_14, z8_17, z8_18, z8_19, z8_20, z8_23, z8_24, z8_27, z8_28, z8_29, z8_30, z8_33, z8_34, z8_37, z8_39, z8_40, z8_41, z8_42, z8_45, z8_46, z8_47, z8_50, sm_cti, sm_ctr, sm_ctn, sm_nbi, Option.toList_some, Option.toList_none, List.cons_append, List.nil_append, ne_eq, reduceCtorEq, not_false_eq_true, Nat.reduceLeDiff, kc34, kc35, kc36, kc37, rf34_0, rf34_1, rf34_2, h6, q1, q2, q3, e8, hP, y_inN hP (by decide), nI_clamp (show P < 2 ^ 31 by omega), nI_1, if_true, if_false, not_true_eq_false, not_false_eq_true, and_true, true_and, and_false, false_and, and_self, or_true, true_or, or_false, false_or, reduceIte, iff_self, Int32.add_zero, y_10, Classical.not_not]
theorem cPe_f (I : sm_I) (P : Nat) (v : Int32) {q c : Nat} (h : ¬ (q = 35 ∨ q = 36 ∨ q = 37 ∨ (q = 34 ∧ c = 6) ∨ q = 41 ∨ q = 42)) : cPe I P v q c = I q c := by
  unfold cPe
  rw [uI_q _ _ (by omega), uI_q _ _ (by omega), uI_o _ _ (by omega), uI_q _ _ (by omega), uI_q _ _ (by omega), uI_q _ _ (by omega)]
theorem mPe_f (I : sm_I) (P : Nat) (v : Int32) {q c : Nat} (h : ¬ (q = 104 ∨ (q = 103 ∧ c = 6))) : mPe I P v q c = I q c := by
  unfold mPe
  rw [uI_o _ _ (by omega), uI_q _ _ (by omega), uI_q _ _ (by omega), uI_q _ _ (by omega), uI_q _ _ (by omega)]
theorem bdf_pe (hb : bdf P D f a b) (hP : P < 8) {v : Nat} (hv : v ≤ 15) : bdf (P + 1) D (pef f P v) a b := by
  refine ⟨by omega, hb.2.1, fun k hk => ?_, fun e he => ?_⟩
  · have h := hb.2.2.1 k hk
    unfold pef
    split
    · unfold top
      rw [if_pos (by omega)]
      exact hv
    · split
      · unfold top
        rw [if_neg (by omega), if_pos (by omega)]
        omega
      · split
        · unfold top
          rw [if_neg (by omega), if_neg (by omega), if_pos (by omega)]
          omega
        · split
          · rw [top_p (by omega)]
            omega
          · exact h
  · have := hb.2.2.2 e he
    omega
theorem cPe_ok {I : sm_I} (hF : cFo P D f a b I) (hT : cTa 40 f I) (hP : P < 8) (hz : f (32 + P) = 0) (v : Nat) : cFo (P + 1) D (pef f P v) a b (cPe I P (nI v)) ∧ cTa 40 (pef f P v) (cPe I P (nI v)) := by
  obtain ⟨F1, F2, F3, F4, F5⟩ := hF
  obtain ⟨T1, T2, T3⟩ := hT
  refine ⟨⟨?_, ?_, ?_, fun p hp => ⟨?_, ?_, ?_⟩, fun e he => ⟨?_, ?_⟩⟩, fun p hp => ⟨?_, ?_⟩, fun e he => ?_, ?_⟩
  · unfold cPe
    rw [uI_q _ _ (by omega), uI_q _ _ (by omega), uI_s]
  · rw [cPe_f _ _ _ (by omega), F2]
  · rw [cPe_f _ _ _ (by omega), F3]
    unfold pef
    rw [if_neg (by omega), if_neg (by omega), if_neg (by omega), if_neg (by omega)]
  · unfold cPe pef
    rw [uI_q _ _ (by omega), uI_q _ _ (by omega), uI_q _ _ (by omega), uI_q _ _ (by omega), uI_q _ _ (by omega)]
    by_cases h : p = P
    · rw [if_pos h, h, uI_s]
    · rw [if_neg h, if_neg (by omega), if_neg (by omega), if_neg (by omega), uI_o _ _ (by omega), (F4 p hp).1]
  · unfold cPe pef
    rw [uI_q _ _ (by omega), uI_q _ _ (by omega), uI_q _ _ (by omega), uI_q _ _ (by omega)]
    by_cases h : p = P
    · rw [if_neg (by omega), if_pos (by omega), h, uI_s]
      rfl
    · rw [if_neg (by omega), if_neg (by omega), if_neg (by omega), if_neg (by omega), uI_o _ _ (by omega), uI_q _ _ (by omega), (F4 p hp).2.1]
  · unfold cPe pef
    rw [uI_q _ _ (by omega), uI_q _ _ (by omega), uI_q _ _ (by omega)]
    by_cases h : p = P
    · rw [if_neg (by omega), if_neg (by omega), if_pos (by omega), h, uI_s]
      rfl
    · rw [if_neg (by omega), if_neg (by omega), if_neg (by omega), if_neg (by omega), uI_o _ _ (by omega), uI_q _ _ (by omega), uI_q _ _ (by omega), (F4 p hp).2.2]
  · rw [cPe_f _ _ _ (by omega), (F5 e he).1]
  · rw [cPe_f _ _ _ (by omega), (F5 e he).2]
  · unfold cPe pef
    rw [uI_q _ _ (by omega)]
    by_cases h : p = P
    · rw [if_neg (by omega), if_neg (by omega), if_neg (by omega), if_pos (by omega), h, uI_s]
      rfl
    · rw [if_neg (by omega), if_neg (by omega), if_neg (by omega), if_neg (by omega), uI_o _ _ (by omega), uI_q _ _ (by omega), uI_q _ _ (by omega), uI_q _ _ (by omega), uI_q _ _ (by omega), (T1 p hp).1]
  · unfold cPe pef
    rw [if_neg (by omega), if_neg (by omega), if_neg (by omega), if_neg (by omega)]
    by_cases h : p = P
    · rw [h, uI_s, hz]
      rfl
    · rw [uI_o _ _ (by omega), uI_q _ _ (by omega), uI_q _ _ (by omega), uI_q _ _ (by omega), uI_q _ _ (by omega), uI_q _ _ (by omega), (T1 p hp).2]
  · rw [cPe_f _ _ _ (by omega), T2 e he]
    unfold pef
    rw [if_neg (by omega), if_neg (by omega), if_neg (by omega), if_neg (by omega)]
  · rw [cPe_f _ _ _ (by omega), T3]
    unfold pef
    rw [if_neg (by omega), if_neg (by omega), if_neg (by omega), if_neg (by omega)]
theorem mPe_ok {I : sm_I} (hM : mFo P D f a b I) (hP : P < 8) (v : Nat) : mFo (P + 1) D (pef f P v) a b (mPe I P (nI v)) := by
  obtain ⟨M1, M2, M3, M4⟩ := hM
  refine ⟨uI_s _ _ _ _, ?_, fun k hk => ?_, fun e he => ⟨?_, ?_⟩⟩
  · rw [mPe_f _ _ _ (by omega), M2]
  · unfold mPe pef
    rw [uI_q _ _ (by omega)]
    by_cases h1 : k = P
    · rw [if_pos h1, uI_o _ _ (by omega), uI_o _ _ (by omega), uI_o _ _ (by omega), h1, uI_s]
    · rw [if_neg h1]
      by_cases h2 : k = 8 + P
      · rw [if_pos h2, uI_o _ _ (by omega), uI_o _ _ (by omega), h2, uI_s]
        rfl
      · rw [if_neg h2]
        by_cases h3 : k = 16 + P
        · rw [if_pos h3, uI_o _ _ (by omega), h3, uI_s]
          rfl
        · rw [if_neg h3]
          by_cases h4 : k = 24 + P
          · rw [if_pos h4, h4, uI_s]
            rfl
          · rw [if_neg h4, uI_o _ _ (by omega), uI_o _ _ (by omega), uI_o _ _ (by omega), uI_o _ _ (by omega), M3 k hk]
  · rw [mPe_f _ _ _ (by omega), (M4 e he).1]
  · rw [mPe_f _ _ _ (by omega), (M4 e he).2]
end
theorem pw_person {n : Nat} {xs : Nat → Int32} {I : sm_I} {J : sm_J} (hI : Inv xs I J) (v : Int32) : pw n I J 84 [.ref 26, .int v, .null] 157 [.ref 103, .int v] (fun I2 J2 => Inv xs I2 J2) := by
  obtain ⟨P, D, B, i1, i2, i3, i4, i5, i6, i7, i8⟩ := id hI
  obtain ⟨f, a, b, hb, cF, cT, mF, hz⟩ := fo_pure i2
  have h8 := hb.1
  have e8 : (nI P < 8) = (P < 8) := propext (nI_ltI (b := 8) (by omega) (by decide))
  have e8' : (nI P = 8) = (P = 8) := propext (nI_eq (b := 8) (by omega) (by decide))
  intro d K hK
  by_cases h0 : 0 ≤ v ∧ v ≤ 15
  · by_cases hP : P < 8
    · have hP' : ¬ P = 8 := by omega
      obtain ⟨v', hv, rfl⟩ := nI_of2 (M := 15) (n := 15) (by decide) (Int32.not_lt.mpr h0.1) h0.2
      simp only [z84_0, z84_1, z84_3, z84_6, z84_9, z84_10, z84_11, z84_12, z84_15, z84_18, z84_20, z84_23, z84_25, z84_26, z84_27, z84_30, z84_33, z84_34, z84_35, z84_38, z84_39, z84_42, z84_43, z84_46, z84_49, z84_50, z84_52, z84_53, z84_54, z84_57, z84_60, z84_61, z84_62, z84_63, z84_64, sm_cti, sm_ctr, sm_ctn, sm_nbi, Option.toList_some, Option.toList_none, List.cons_append, List.nil_append, ne_eq, reduceCtorEq, not_false_eq_true, Nat.reduceLeDiff, kc26, kc34, kc40, kc41, kc42, rc34, rf26_2, rf26_3, rf40_0, rf40_1, y_within, y_bit, h0, cF.1, e8, hP, c_moveIn hP cF.1, y_inN hP (by decide), nI_clamp (show P < 2 ^ 31 by omega), if_true, if_false, not_true_eq_false, not_false_eq_true, and_true, true_and, and_false, false_and, and_self, or_true, true_or, or_false, false_or, reduceIte, iff_self, Int32.add_zero, y_10, Classical.not_not]
      refine hK _ _ J (fun K2 h3 => ?_)
      change sm_Ok (d + 200) 157 0 [.ref 103, .int (nI v')] [] (sm_SH n, cPe I P (nI v'), J) K2
      have mF1 : mFo P D f a b (cPe I P (nI v')) := mFo_f mF (fun x c hx => cPe_f _ _ _ (by omega))
      obtain ⟨c1, c2⟩ := cPe_ok cF cT hP (hz P (Nat.le_refl _) hP) v'
      have m1 := mPe_ok mF1 hP v'
      have hG : ∀ q c, ¬ (q = 35 ∨ q = 36 ∨ q = 37 ∨ (q = 34 ∧ c = 6) ∨ q = 41 ∨ q = 42) → cPe I P (nI v') q c = I q c := fun q c h => cPe_f _ _ _ h
      generalize cPe I P (nI v') = I1 at *
      have a8 : (8 : Int32) + nI P = nI (8 + P) := nI_add 8 P
      have a16 : (16 : Int32) + nI P = nI (16 + P) := nI_add 16 P
      have a24 : (24 : Int32) + nI P = nI (24 + P) := nI_add 24 P
      have q0 := mF1.1
      have q1 : sm_uI I1 104 P (nI v') 103 6 = nI P := by rw [uI_q _ _ (by omega), q0]
      have q2 : sm_uI (sm_uI I1 104 P (nI v')) 104 (8 + P) 5 103 6 = nI P := by rw [uI_q _ _ (by omega), q1]
      have q3 : sm_uI (sm_uI (sm_uI I1 104 P (nI v')) 104 (8 + P) 5) 104 (16 + P) 6 103 6 = nI P := by rw [uI_q _ _ (by omega), q2]
      have q4 : sm_uI (sm_uI (sm_uI (sm_uI I1 104 P (nI v')) 104 (8 + P) 5) 104 (16 + P) 6) 104 (24 + P) 50 103 6 = nI P := by rw [uI_q _ _ (by omega), q3]
      simp only [z157_0, z157_1, z157_2, z157_3, z157_6, z157_9, z157_12, z157_13, z157_14, z157_15, z157_18, z157_20, z157_23, z157_25, z157_26, z157_27, z157_30, z157_31, z157_34, z157_35, z157_36, z157_37, z157_40, z157_42, z157_43, z157_46, z157_47, z157_48, z157_49, z157_50, z157_53, z157_55, z157_56, z157_59, z157_60, z157_62, z157_63, z157_64, z157_67, z157_69, z157_70, z157_73, z157_74, z157_76, z157_77, z157_78, z157_79, z157_82, z157_83, z157_84, z157_87, z157_88, z157_91, z157_92, z157_93, sm_cti, sm_ctr, sm_ctn, sm_nbi, Option.toList_some, Option.toList_none, List.cons_append, List.nil_append, ne_eq, reduceCtorEq, not_false_eq_true, Nat.reduceLeDiff, kc103, kc104, rf103_0, m_within, y_w0, y_v15, y_bit, h0, q0, q1, q2, q3, q4, uI_s, e8', hP', a8, a16, a24, y_inN (show P < 54 by omega) (by decide), nI_clamp (show P < 2 ^ 31 by omega), y_inN (show 8 + P < 54 by omega) (by decide), nI_clamp (show 8 + P < 2 ^ 31 by omega), y_inN (show 16 + P < 54 by omega) (by decide), nI_clamp (show 16 + P < 2 ^ 31 by omega), y_inN (show 24 + P < 54 by omega) (by decide), nI_clamp (show 24 + P < 2 ^ 31 by omega), nI_1, nI_pred, if_true, if_false, not_true_eq_false, not_false_eq_true, and_true, true_and, and_false, false_and, and_self, or_true, true_or, or_false, false_or, reduceIte, iff_self, Int32.add_zero, y_10, Classical.not_not]
      refine h3 (mPe I1 P (nI v')) J ?_
      refine Inv_2 (P' := P + 1) (D' := D) i1 i3 i4 i5 i6 i7 i8 (by omega) (Nat.le_refl _) (fun x c hx => by rw [mPe_f _ _ _ (by omega), hG x c (by omega)]) (fo_back (bdf_pe hb hP hv) (cFo_f c1 (fun x c h1 h2 => mPe_f _ _ _ (by omega))) (cTa_f c2 (fun x c h1 h2 => mPe_f _ _ _ (by omega))) m1 (fun p p1 p2 => ?_))
      unfold pef
      rw [if_neg (by omega), if_neg (by omega), if_neg (by omega), if_neg (by omega)]
      exact hz p (by omega) p2
    · have hP' : P = 8 := by omega
      simp only [z84_0, z84_1, z84_3, z84_6, z84_9, z84_10, z84_11, z84_12, z84_15, z84_18, z84_20, z84_23, z84_25, z84_26, z84_27, z84_30, z84_33, z84_34, z84_35, z84_38, z84_39, z84_42, z84_43, z84_46, z84_49, z84_50, z84_52, z84_53, z84_54, z84_57, z84_60, z84_61, z84_62, z84_63, z84_64, sm_cti, sm_ctr, sm_ctn, sm_nbi, Option.toList_some, Option.toList_none, List.cons_append, List.nil_append, ne_eq, reduceCtorEq, not_false_eq_true, Nat.reduceLeDiff, kc26, kc34, rf26_2, y_within, y_bit, h0, cF.1, e8, hP, if_true, if_false, not_true_eq_false, not_false_eq_true, and_true, true_and, and_false, false_and, and_self, or_true, true_or, or_false, false_or, reduceIte, iff_self, Int32.add_zero, y_10, Classical.not_not]
      refine hK (-3) I J (fun K2 h3 => ?_)
      simp only [z157_0, z157_1, z157_2, z157_3, z157_6, z157_9, z157_12, z157_13, z157_14, z157_15, z157_18, z157_20, z157_23, z157_25, z157_26, z157_27, z157_30, z157_31, z157_34, z157_35, z157_36, z157_37, z157_40, z157_42, z157_43, z157_46, z157_47, z157_48, z157_49, z157_50, z157_53, z157_55, z157_56, z157_59, z157_60, z157_62, z157_63, z157_64, z157_67, z157_69, z157_70, z157_73, z157_74, z157_76, z157_77, z157_78, z157_79, z157_82, z157_83, z157_84, z157_87, z157_88, z157_91, z157_92, z157_93, sm_cti, sm_ctr, sm_ctn, sm_nbi, Option.toList_some, Option.toList_none, List.cons_append, List.nil_append, ne_eq, reduceCtorEq, not_false_eq_true, Nat.reduceLeDiff, kc103, m_within, y_w0, y_v15, y_bit, h0, mF.1, e8', hP', show nI 8 = 8 from rfl, if_true, if_false, not_true_eq_false, not_false_eq_true, and_true, true_and, and_false, false_and, and_self, or_true, true_or, or_false, false_or, reduceIte, iff_self, Int32.add_zero, y_10, Classical.not_not]
      exact h3 I J hI
  · simp only [z84_0, z84_1, z84_3, z84_6, z84_9, z84_10, z84_11, z84_12, z84_15, z84_18, z84_20, z84_23, z84_25, z84_26, z84_27, z84_30, z84_33, z84_34, z84_35, z84_38, z84_39, z84_42, z84_43, z84_46, z84_49, z84_50, z84_52, z84_53, z84_54, z84_57, z84_60, z84_61, z84_62, z84_63, z84_64, sm_cti, sm_ctr, sm_ctn, sm_nbi, Option.toList_some, Option.toList_none, List.cons_append, List.nil_append, ne_eq, reduceCtorEq, not_false_eq_true, Nat.reduceLeDiff, y_within, y_bit, h0, if_true, if_false, not_true_eq_false, not_false_eq_true, and_true, true_and, and_false, false_and, and_self, or_true, true_or, or_false, false_or, reduceIte, iff_self, Int32.add_zero, y_10, Classical.not_not]
    refine hK (-1) I J (fun K2 h3 => ?_)
    simp only [z157_0, z157_1, z157_2, z157_3, z157_6, z157_9, z157_12, z157_13, z157_14, z157_15, z157_18, z157_20, z157_23, z157_25, z157_26, z157_27, z157_30, z157_31, z157_34, z157_35, z157_36, z157_37, z157_40, z157_42, z157_43, z157_46, z157_47, z157_48, z157_49, z157_50, z157_53, z157_55, z157_56, z157_59, z157_60, z157_62, z157_63, z157_64, z157_67, z157_69, z157_70, z157_73, z157_74, z157_76, z157_77, z157_78, z157_79, z157_82, z157_83, z157_84, z157_87, z157_88, z157_91, z157_92, z157_93, sm_cti, sm_ctr, sm_ctn, sm_nbi, Option.toList_some, Option.toList_none, List.cons_append, List.nil_append, ne_eq, reduceCtorEq, not_false_eq_true, Nat.reduceLeDiff, m_within, y_w0, y_v15, y_bit, h0, if_true, if_false, not_true_eq_false, not_false_eq_true, and_true, true_and, and_false, false_and, and_self, or_true, true_or, or_false, false_or, reduceIte, iff_self, Int32.add_zero, y_10, Classical.not_not]
    exact h3 I J hI
