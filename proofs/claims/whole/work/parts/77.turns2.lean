/-! both answer alike: byTurns -/
theorem pw_byTurns {n : Nat} {xs : Nat → Int32} {I : sm_I} {J : sm_J} (hI : Inv xs I J) (q t w : Int32) : pw n I J 106 [.ref 26, .int q, .int t, .int w, .null, .null, .null, .null, .null, .null] 211 [.ref 103, .int q, .int t, .int w, .null] (fun I2 J2 => Inv xs I2 J2) := by
  obtain ⟨P, D, B, i1, i2, i3, i4, i5, i6, i7, i8⟩ := id hI
  obtain ⟨f, a, b, hb, cF, cT, mF, hz⟩ := fo_pure i2
  obtain ⟨lo, cl, ml⟩ := la_lo i5
  have h8 := hb.1
  have h12 := hb.2.1
  have hg : bdg f := fun k k1 k2 k3 => hb.2.2.1 k k2
  intro d K hK
  by_cases hG : (0 ≤ q ∧ q < nI D) ∧ (1 ≤ t ∧ t ≤ 6) ∧ (0 ≤ w ∧ w ≤ 1)
  · obtain ⟨g1, g2, g3⟩ := hG
    obtain ⟨e, he, rfl⟩ := y_idx (show D < 2 ^ 31 by omega) g1
    have h01 : (0 : Int32) ≤ 1 := by decide
    obtain ⟨N, hN, rfl⟩ := nI_of2 (M := 6) (n := 6) (by decide) (Int32.not_lt.mpr (Int32.le_trans h01 g2.1)) g2.2
    have hN1 : 1 ≤ N := (nI_leI (a := 1) (by decide) (by omega)).mp g2.1
    obtain ⟨N, rfl⟩ : ∃ k, N = k + 1 := ⟨N - 1, by omega⟩
    obtain ⟨c1, c2, c3⟩ := hb.2.2.2 e he
    have G1 : ¬ nI (N + 1) < 1 := Int32.not_lt.mpr g2.1
    have G2 : ¬ 6 < nI (N + 1) := Int32.not_lt.mpr g2.2
    have gs := hg (40 + e) (by omega) (by omega) (by omega)
    have gp := hg (24 + a e) (by omega) (by omega) (by omega)
    have gm := hg (32 + a e) (by omega) (by omega) (by omega)
    rw [top_s (by omega)] at gs
    rw [top_p (by omega)] at gp
    rw [top_m (by omega)] at gm
    have hmt : mvt P f a b lo e (f (32 + a e)) (f (40 + e)) (f 53) ≤ 99 := Nat.min_le_left _ _
    simp only [z106_0, z106_1, z106_4, z106_5, z106_8, z106_11, z106_12, z106_13, z106_16, z106_17, z106_19, z106_22, z106_23, z106_24, z106_27, z106_30, z106_32, z106_33, z106_34, z106_37, z106_40, z106_41, z106_44, z106_47, z106_48, z106_49, z106_50, z106_52, z106_53, z106_56, z106_59, z106_60, z106_61, z106_63, z106_64, z106_67, z106_70, z106_71, z106_74, z106_77, z106_78, z106_79, z106_80, z106_82, z106_83, z106_84, z106_85, z106_86, z106_87, z106_88, z106_90, z106_92, z106_94, z106_97, z106_99, z106_100, z106_103, z106_104, z106_106, z106_108, z106_109, z106_112, z106_115, z106_118, z106_120, z106_121, z106_122, z106_123, z106_124, z106_125, z106_126, z106_128, z106_130, z106_132, z106_135, z106_136, z106_137, z106_139, z106_140, z106_141, z106_144, z106_146, z106_148, z106_151, z106_152, z106_155, z106_156, z106_157, z106_159, z106_161, z106_164, sm_cti, sm_ctr, sm_ctn, sm_nbi, Option.toList_some, Option.toList_none, List.cons_append, List.nil_append, ne_eq, reduceCtorEq, not_false_eq_true, Nat.reduceLeDiff, kc26, kc34, kc38, kc40, kc41, kc42, kc43, rc26, rc34, rf26_2, rf26_3, rf34_3, rf40_0, rf40_1, rf40_2, y_isDebt, cF.2.1, y_within, y_bit, g1, G1, G2, g3, (cF.2.2.2.2 e he).1, (cT.1 (a e) (by omega)).1, (cT.1 (a e) (by omega)).2, cT.2.1 e (by omega), nI_pred, y_inN (show e < 12 by omega) (by decide), nI_clamp (show e < 2 ^ 31 by omega), y_inN (show a e < 8 by omega) (by decide), nI_clamp (show a e < 2 ^ 31 by omega), if_true, if_false, not_true_eq_false, not_false_eq_true, and_true, true_and, and_false, false_and, and_self, or_true, true_or, or_false, false_or, reduceIte, iff_self, Int32.add_zero, y_10, Classical.not_not]
    have ff : (if false = true then (1 : Int32) else 0) = 0 := rfl
    have H1 := fun K I cF cl h53 hk => c_tw (lo := lo) hb he N false (f (32 + a e)) (f (40 + e)) (f (24 + a e)) (by omega) gm gs gp (d + 195 - N) n J K I cF cl h53 hk
    simp only [ff, show d + 195 - N + N + 4 = d + 199 by omega] at H1
    refine H1 _ I cF cl cT.2.2 (fun I1 w1 => ?_)
    have cF1 := cFo_f cF (I' := I1) (fun x c h1 h2 => w1 x c (by omega))
    have cl1 := cLw_f cl (I' := I1) (fun x c h1 h2 => w1 x c (by omega))
    have e40 : I1 40 3 = nI (f 53) := by rw [w1 _ _ (by omega), cT.2.2]
    simp only [z106_0, z106_1, z106_4, z106_5, z106_8, z106_11, z106_12, z106_13, z106_16, z106_17, z106_19, z106_22, z106_23, z106_24, z106_27, z106_30, z106_32, z106_33, z106_34, z106_37, z106_40, z106_41, z106_44, z106_47, z106_48, z106_49, z106_50, z106_52, z106_53, z106_56, z106_59, z106_60, z106_61, z106_63, z106_64, z106_67, z106_70, z106_71, z106_74, z106_77, z106_78, z106_79, z106_80, z106_82, z106_83, z106_84, z106_85, z106_86, z106_87, z106_88, z106_90, z106_92, z106_94, z106_97, z106_99, z106_100, z106_103, z106_104, z106_106, z106_108, z106_109, z106_112, z106_115, z106_118, z106_120, z106_121, z106_122, z106_123, z106_124, z106_125, z106_126, z106_128, z106_130, z106_132, z106_135, z106_136, z106_137, z106_139, z106_140, z106_141, z106_144, z106_146, z106_148, z106_151, z106_152, z106_155, z106_156, z106_157, z106_159, z106_161, z106_164, sm_cti, sm_ctr, sm_ctn, sm_nbi, Option.toList_some, Option.toList_none, List.cons_append, List.nil_append, ne_eq, reduceCtorEq, not_false_eq_true, Nat.reduceLeDiff, kc26, kc40, rc34, rf26_2, rf26_3, e40, if_true, if_false, not_true_eq_false, not_false_eq_true, and_true, true_and, and_false, false_and, and_self, or_true, true_or, or_false, false_or, reduceIte, iff_self, Int32.add_zero, y_10, Classical.not_not]
    refine c_movedTo hb cF1 cl1 he gm (f (40 + e)) (f 53) (d + 196) n J _ (fun I2 w2 => ?_)
    simp only [z106_0, z106_1, z106_4, z106_5, z106_8, z106_11, z106_12, z106_13, z106_16, z106_17, z106_19, z106_22, z106_23, z106_24, z106_27, z106_30, z106_32, z106_33, z106_34, z106_37, z106_40, z106_41, z106_44, z106_47, z106_48, z106_49, z106_50, z106_52, z106_53, z106_56, z106_59, z106_60, z106_61, z106_63, z106_64, z106_67, z106_70, z106_71, z106_74, z106_77, z106_78, z106_79, z106_80, z106_82, z106_83, z106_84, z106_85, z106_86, z106_87, z106_88, z106_90, z106_92, z106_94, z106_97, z106_99, z106_100, z106_103, z106_104, z106_106, z106_108, z106_109, z106_112, z106_115, z106_118, z106_120, z106_121, z106_122, z106_123, z106_124, z106_125, z106_126, z106_128, z106_130, z106_132, z106_135, z106_136, z106_137, z106_139, z106_140, z106_141, z106_144, z106_146, z106_148, z106_151, z106_152, z106_155, z106_156, z106_157, z106_159, z106_161, z106_164, sm_cti, sm_ctr, sm_ctn, sm_nbi, Option.toList_some, Option.toList_none, List.cons_append, List.nil_append, ne_eq, reduceCtorEq, not_false_eq_true, Nat.reduceLeDiff, rc26, nI_pred, if_true, if_false, not_true_eq_false, not_false_eq_true, and_true, true_and, and_false, false_and, and_self, or_true, true_or, or_false, false_or, reduceIte, iff_self, Int32.add_zero, y_10, Classical.not_not]
    have H2 := fun K I cF cl h53 hk => c_tw (lo := lo) hb he N false (mvt P f a b lo e (f (32 + a e)) (f (40 + e)) (f 53)) (f (40 + e)) (f (24 + a e)) (by omega) hmt gs gp (d + 195 - N) n J K I cF cl h53 hk
    simp only [ff, show d + 195 - N + N + 4 = d + 199 by omega] at H2
    refine H2 _ I2 (cFo_f cF1 (fun x c h1 h2 => w2 x c (by omega))) (cLw_f cl1 (fun x c h1 h2 => w2 x c (by omega))) (by rw [w2 _ _ (by omega), e40]) (fun I3 w3 => ?_)
    have f3 : ∀ x c, ¬ (x = 29 ∨ x = 30) → I3 x c = I x c := fun x c hx => by rw [w3 x c hx, w2 x c hx, w1 x c hx]
    have mF3 := mFo_f mF (I' := I3) (fun x c hx => f3 x c (by omega))
    have ml3 := mLw_f ml (I' := I3) (fun x c hx => f3 x c (by omega))
    generalize hA1 : twv P f a b lo e (f 53) N false (f (32 + a e)) (f (40 + e)) (f (24 + a e)) = A1 at *
    generalize hA2 : twv P f a b lo e (f 53) N false (mvt P f a b lo e (f (32 + a e)) (f (40 + e)) (f 53)) (f (40 + e)) (f (24 + a e)) - 3 = A2 at *
    have hW : twv P f a b lo e (f 53) (N + 1) true (f (32 + a e)) (f (40 + e)) (f (24 + a e)) = if A1 < A2 then A2 else A1 := by
      rw [← hA1, ← hA2]
      rfl
    -- the reference
    have ref : ∀ (v : Int32) (K2 : Option Value → sm_H → Prop), (w = 0 ∧ v = (if A1 < A2 then A2 else A1) ∨ w = 1 ∧ v = (if A2 ≤ A1 then 0 else 1)) → (∀ I4 : sm_I, Inv xs I4 J → K2 (some (.int v)) (sm_SH n, I4, J)) → sm_Ok (d + 200) 211 0 [.ref 103, .int (nI e), .int (nI (N + 1)), .int w, .null] [] (sm_SH n, I3, J) K2 := by
      intro v K2 hv h3
      simp only [z211_0, z211_1, z211_2, z211_3, z211_6, z211_9, z211_10, z211_11, z211_12, z211_15, z211_18, z211_21, z211_22, z211_23, z211_24, z211_25, z211_28, z211_31, z211_33, z211_34, z211_35, z211_38, z211_39, z211_40, z211_41, z211_42, z211_45, z211_47, z211_48, z211_51, z211_53, z211_56, z211_57, z211_58, z211_59, z211_60, z211_63, z211_65, z211_68, z211_69, z211_72, z211_73, sm_cti, sm_ctr, sm_ctn, sm_nbi, Option.toList_some, Option.toList_none, List.cons_append, List.nil_append, ne_eq, reduceCtorEq, not_false_eq_true, Nat.reduceLeDiff, rc103, m_isDebtX (show D < 2 ^ 31 by omega) mF3.2.1, m_within, y_w1, y_v6, y_w0, y_v1, y_bit, g1, g2, g3, if_true, if_false, not_true_eq_false, not_false_eq_true, and_true, true_and, and_false, false_and, and_self, or_true, true_or, or_false, false_or, reduceIte, iff_self, Int32.add_zero, y_10, Classical.not_not]
      refine m_begins hb mF3 _ n J _ (fun I4 w4 mT4 => ?_)
      have mF4 := mFo_f mF3 (I' := I4) (fun x c hx => w4 x c (by omega))
      have ml4 := mLw_f ml3 (I' := I4) (fun x c hx => w4 x c (by omega))
      simp only [z211_0, z211_1, z211_2, z211_3, z211_6, z211_9, z211_10, z211_11, z211_12, z211_15, z211_18, z211_21, z211_22, z211_23, z211_24, z211_25, z211_28, z211_31, z211_33, z211_34, z211_35, z211_38, z211_39, z211_40, z211_41, z211_42, z211_45, z211_47, z211_48, z211_51, z211_53, z211_56, z211_57, z211_58, z211_59, z211_60, z211_63, z211_65, z211_68, z211_69, z211_72, z211_73, sm_cti, sm_ctr, sm_ctn, sm_nbi, Option.toList_some, Option.toList_none, List.cons_append, List.nil_append, ne_eq, reduceCtorEq, not_false_eq_true, Nat.reduceLeDiff, rc103, if_true, if_false, not_true_eq_false, not_false_eq_true, and_true, true_and, and_false, false_and, and_self, or_true, true_or, or_false, false_or, reduceIte, iff_self, Int32.add_zero, y_10, Classical.not_not]
      have P1 := fun K I mF ml mT hk => m_pl (lo := lo) hb he hN (N + 1) 0 (by omega) f hg (d + 150 - N) n J K I mF ml mT hk
      simp only [nI_0, show d + 150 - N + (N + 1) + 48 = d + 199 by omega, decide_true, hW] at P1
      refine P1 _ I4 mF4 ml4 mT4 (fun I5 w5 mT5 => ?_)
      have mF5 := mFo_f mF4 (I' := I5) (fun x c hx => w5 x c (by omega))
      have ml5 := mLw_f ml4 (I' := I5) (fun x c hx => w5 x c (by omega))
      rcases hv with ⟨rfl, rfl⟩ | ⟨rfl, rfl⟩
      · simp only [z211_0, z211_1, z211_2, z211_3, z211_6, z211_9, z211_10, z211_11, z211_12, z211_15, z211_18, z211_21, z211_22, z211_23, z211_24, z211_25, z211_28, z211_31, z211_33, z211_34, z211_35, z211_38, z211_39, z211_40, z211_41, z211_42, z211_45, z211_47, z211_48, z211_51, z211_53, z211_56, z211_57, z211_58, z211_59, z211_60, z211_63, z211_65, z211_68, z211_69, z211_72, z211_73, sm_cti, sm_ctr, sm_ctn, sm_nbi, Option.toList_some, Option.toList_none, List.cons_append, List.nil_append, ne_eq, reduceCtorEq, not_false_eq_true, Nat.reduceLeDiff, if_true, if_false, not_true_eq_false, not_false_eq_true, and_true, true_and, and_false, false_and, and_self, or_true, true_or, or_false, false_or, reduceIte, iff_self, Int32.add_zero, y_10, Classical.not_not]
        exact h3 I5 (Inv_0 hI (ag0 (fun x c hx => by rw [w5 x c (by omega), w4 x c (by omega), f3 x c (by omega)])))
      · have one0 : ¬ (1 : Int32) = 0 := by decide
        simp only [z211_0, z211_1, z211_2, z211_3, z211_6, z211_9, z211_10, z211_11, z211_12, z211_15, z211_18, z211_21, z211_22, z211_23, z211_24, z211_25, z211_28, z211_31, z211_33, z211_34, z211_35, z211_38, z211_39, z211_40, z211_41, z211_42, z211_45, z211_47, z211_48, z211_51, z211_53, z211_56, z211_57, z211_58, z211_59, z211_60, z211_63, z211_65, z211_68, z211_69, z211_72, z211_73, sm_cti, sm_ctr, sm_ctn, sm_nbi, Option.toList_some, Option.toList_none, List.cons_append, List.nil_append, ne_eq, reduceCtorEq, not_false_eq_true, Nat.reduceLeDiff, rc103, one0, if_true, if_false, not_true_eq_false, not_false_eq_true, and_true, true_and, and_false, false_and, and_self, or_true, true_or, or_false, false_or, reduceIte, iff_self, Int32.add_zero, y_10, Classical.not_not]
        have P2 : ∀ (K : Option Value → sm_H → Prop) (I : sm_I), mFo P D f a b I → mLw lo I → mTa P D f I → (∀ I', (∀ x c, ¬ ((112 ≤ x ∧ x < 116) ∨ (x = 103 ∧ 14 ≤ c ∧ c ≤ 18)) → I' x c = I x c) → mTa P D f I' → K (some (.int A1)) (sm_SH n, I', J)) → sm_Ok (d + 199) 210 0 [.ref 103, .int (nI e), .int 1, .int (nI (N + 1)), .null, .null, .null, .null] [] (sm_SH n, I, J) K := by
          intro K I mF ml mT hk
          have := m_pl (lo := lo) hb he hN N 1 (by omega) f hg (d + 151 - N) n J K I mF ml mT (fun I' h1 h2 => by rw [show decide (1 % 2 = 0) = false from rfl, hA1]; exact hk I' h1 h2)
          rw [show d + 151 - N + N + 48 = d + 199 by omega] at this
          exact this
        refine P2 _ I5 mF5 ml5 mT5 (fun I6 w6 mT6 => ?_)
        have fin := h3 I6 (Inv_0 hI (ag0 (fun x c hx => by rw [w6 x c (by omega), w5 x c (by omega), w4 x c (by omega), f3 x c (by omega)])))
        simp only [z211_0, z211_1, z211_2, z211_3, z211_6, z211_9, z211_10, z211_11, z211_12, z211_15, z211_18, z211_21, z211_22, z211_23, z211_24, z211_25, z211_28, z211_31, z211_33, z211_34, z211_35, z211_38, z211_39, z211_40, z211_41, z211_42, z211_45, z211_47, z211_48, z211_51, z211_53, z211_56, z211_57, z211_58, z211_59, z211_60, z211_63, z211_65, z211_68, z211_69, z211_72, z211_73, sm_cti, sm_ctr, sm_ctn, sm_nbi, Option.toList_some, Option.toList_none, List.cons_append, List.nil_append, ne_eq, reduceCtorEq, not_false_eq_true, Nat.reduceLeDiff, if_true, if_false, not_true_eq_false, not_false_eq_true, and_true, true_and, and_false, false_and, and_self, or_true, true_or, or_false, false_or, reduceIte, iff_self, Int32.add_zero, y_10, Classical.not_not]
        by_cases hle : A2 ≤ A1
        · have e1 : (if A1 < A2 then A2 else A1) = A1 := by rw [if_neg (Int32.not_lt.mpr hle)]
          rw [if_pos hle] at fin
          simp only [e1, z211_0, z211_1, z211_2, z211_3, z211_6, z211_9, z211_10, z211_11, z211_12, z211_15, z211_18, z211_21, z211_22, z211_23, z211_24, z211_25, z211_28, z211_31, z211_33, z211_34, z211_35, z211_38, z211_39, z211_40, z211_41, z211_42, z211_45, z211_47, z211_48, z211_51, z211_53, z211_56, z211_57, z211_58, z211_59, z211_60, z211_63, z211_65, z211_68, z211_69, z211_72, z211_73, sm_cti, sm_ctr, sm_ctn, sm_nbi, Option.toList_some, Option.toList_none, List.cons_append, List.nil_append, ne_eq, reduceCtorEq, not_false_eq_true, Nat.reduceLeDiff, if_true, if_false, not_true_eq_false, not_false_eq_true, and_true, true_and, and_false, false_and, and_self, or_true, true_or, or_false, false_or, reduceIte, iff_self, Int32.add_zero, y_10, Classical.not_not]
          exact fin
        · have hlt : A1 < A2 := Int32.not_le.mp hle
          have e1 : (if A1 < A2 then A2 else A1) = A2 := by rw [if_pos hlt]
          have ne : ¬ A1 = A2 := fun z => hle (by rw [z]; exact Int32.le_refl _)
          rw [if_neg hle] at fin
          simp only [e1, ne, z211_0, z211_1, z211_2, z211_3, z211_6, z211_9, z211_10, z211_11, z211_12, z211_15, z211_18, z211_21, z211_22, z211_23, z211_24, z211_25, z211_28, z211_31, z211_33, z211_34, z211_35, z211_38, z211_39, z211_40, z211_41, z211_42, z211_45, z211_47, z211_48, z211_51, z211_53, z211_56, z211_57, z211_58, z211_59, z211_60, z211_63, z211_65, z211_68, z211_69, z211_72, z211_73, sm_cti, sm_ctr, sm_ctn, sm_nbi, Option.toList_some, Option.toList_none, List.cons_append, List.nil_append, ne_eq, reduceCtorEq, not_false_eq_true, Nat.reduceLeDiff, if_true, if_false, not_true_eq_false, not_false_eq_true, and_true, true_and, and_false, false_and, and_self, or_true, true_or, or_false, false_or, reduceIte, iff_self, Int32.add_zero, y_10, Classical.not_not]
          exact fin
    have w01 : w = 0 ∨ w = 1 := by
      obtain ⟨k, hk, rfl⟩ := nI_of2 (M := 1) (n := 1) (by decide) (Int32.not_lt.mpr g3.1) g3.2
      rcases (show k = 0 ∨ k = 1 by omega) with rfl | rfl <;> decide
    rcases w01 with rfl | rfl
    · have z1 : ¬ (0 : Int32) = 1 := by decide
      simp only [z106_0, z106_1, z106_4, z106_5, z106_8, z106_11, z106_12, z106_13, z106_16, z106_17, z106_19, z106_22, z106_23, z106_24, z106_27, z106_30, z106_32, z106_33, z106_34, z106_37, z106_40, z106_41, z106_44, z106_47, z106_48, z106_49, z106_50, z106_52, z106_53, z106_56, z106_59, z106_60, z106_61, z106_63, z106_64, z106_67, z106_70, z106_71, z106_74, z106_77, z106_78, z106_79, z106_80, z106_82, z106_83, z106_84, z106_85, z106_86, z106_87, z106_88, z106_90, z106_92, z106_94, z106_97, z106_99, z106_100, z106_103, z106_104, z106_106, z106_108, z106_109, z106_112, z106_115, z106_118, z106_120, z106_121, z106_122, z106_123, z106_124, z106_125, z106_126, z106_128, z106_130, z106_132, z106_135, z106_136, z106_137, z106_139, z106_140, z106_141, z106_144, z106_146, z106_148, z106_151, z106_152, z106_155, z106_156, z106_157, z106_159, z106_161, z106_164, sm_cti, sm_ctr, sm_ctn, sm_nbi, Option.toList_some, Option.toList_none, List.cons_append, List.nil_append, ne_eq, reduceCtorEq, not_false_eq_true, Nat.reduceLeDiff, hA2, z1, if_true, if_false, not_true_eq_false, not_false_eq_true, and_true, true_and, and_false, false_and, and_self, or_true, true_or, or_false, false_or, reduceIte, iff_self, Int32.add_zero, y_10, Classical.not_not]
      exact hK _ I3 J (fun K2 h3 => ref _ K2 (Or.inl ⟨rfl, rfl⟩) (fun I4 hi => h3 I4 J hi))
    · simp only [z106_0, z106_1, z106_4, z106_5, z106_8, z106_11, z106_12, z106_13, z106_16, z106_17, z106_19, z106_22, z106_23, z106_24, z106_27, z106_30, z106_32, z106_33, z106_34, z106_37, z106_40, z106_41, z106_44, z106_47, z106_48, z106_49, z106_50, z106_52, z106_53, z106_56, z106_59, z106_60, z106_61, z106_63, z106_64, z106_67, z106_70, z106_71, z106_74, z106_77, z106_78, z106_79, z106_80, z106_82, z106_83, z106_84, z106_85, z106_86, z106_87, z106_88, z106_90, z106_92, z106_94, z106_97, z106_99, z106_100, z106_103, z106_104, z106_106, z106_108, z106_109, z106_112, z106_115, z106_118, z106_120, z106_121, z106_122, z106_123, z106_124, z106_125, z106_126, z106_128, z106_130, z106_132, z106_135, z106_136, z106_137, z106_139, z106_140, z106_141, z106_144, z106_146, z106_148, z106_151, z106_152, z106_155, z106_156, z106_157, z106_159, z106_161, z106_164, sm_cti, sm_ctr, sm_ctn, sm_nbi, Option.toList_some, Option.toList_none, List.cons_append, List.nil_append, ne_eq, reduceCtorEq, not_false_eq_true, Nat.reduceLeDiff, hA2, if_true, if_false, not_true_eq_false, not_false_eq_true, and_true, true_and, and_false, false_and, and_self, or_true, true_or, or_false, false_or, reduceIte, iff_self, Int32.add_zero, y_10, Classical.not_not]
      have fin := hK (if A2 ≤ A1 then 0 else 1) I3 J (fun K2 h3 => ref _ K2 (Or.inr ⟨rfl, rfl⟩) (fun I4 hi => h3 I4 J hi))
      by_cases hle : A2 ≤ A1
      · simp only [hle, if_true, if_false, not_true_eq_false, not_false_eq_true, and_true, true_and, and_false, false_and, and_self, or_true, true_or, or_false, false_or, reduceIte, iff_self, Int32.add_zero, y_10, Classical.not_not] at fin ⊢
        exact fin
      · simp only [hle, if_true, if_false, not_true_eq_false, not_false_eq_true, and_true, true_and, and_false, false_and, and_self, or_true, true_or, or_false, false_or, reduceIte, iff_self, Int32.add_zero, y_10, Classical.not_not] at fin ⊢
        exact fin
  · have cB : ∀ K : Option Value → sm_H → Prop, K (some (.int (-2000000000))) (sm_SH n, I, J) → sm_Ok (d + 200) 106 0 [.ref 26, .int q, .int t, .int w, .null, .null, .null, .null, .null, .null] [] (sm_SH n, I, J) K := by
      intro K h
      simp only [z106_0, z106_1, z106_4, z106_5, z106_8, z106_11, z106_12, z106_13, z106_16, z106_17, z106_19, z106_22, z106_23, z106_24, z106_27, z106_30, z106_32, z106_33, z106_34, z106_37, z106_40, z106_41, z106_44, z106_47, z106_48, z106_49, z106_50, z106_52, z106_53, z106_56, z106_59, z106_60, z106_61, z106_63, z106_64, z106_67, z106_70, z106_71, z106_74, z106_77, z106_78, z106_79, z106_80, z106_82, z106_83, z106_84, z106_85, z106_86, z106_87, z106_88, z106_90, z106_92, z106_94, z106_97, z106_99, z106_100, z106_103, z106_104, z106_106, z106_108, z106_109, z106_112, z106_115, z106_118, z106_120, z106_121, z106_122, z106_123, z106_124, z106_125, z106_126, z106_128, z106_130, z106_132, z106_135, z106_136, z106_137, z106_139, z106_140, z106_141, z106_144, z106_146, z106_148, z106_151, z106_152, z106_155, z106_156, z106_157, z106_159, z106_161, z106_164, sm_cti, sm_ctr, sm_ctn, sm_nbi, Option.toList_some, Option.toList_none, List.cons_append, List.nil_append, ne_eq, reduceCtorEq, not_false_eq_true, Nat.reduceLeDiff, kc26, rc34, rf26_2, y_isDebt, cF.2.1, y_within, y_bit, if_true, if_false, not_true_eq_false, not_false_eq_true, and_true, true_and, and_false, false_and, and_self, or_true, true_or, or_false, false_or, reduceIte, iff_self, Int32.add_zero, y_10, Classical.not_not]
      by_cases a1 : 0 ≤ q ∧ q < nI D
      · by_cases a2 : t < 1
        · simp only [a1, a2, if_true, if_false, not_true_eq_false, not_false_eq_true, and_true, true_and, and_false, false_and, and_self, or_true, true_or, or_false, false_or, reduceIte, iff_self, Int32.add_zero, y_10, Classical.not_not]
          exact h
        · by_cases a3 : 6 < t
          · simp only [a1, a2, a3, if_true, if_false, not_true_eq_false, not_false_eq_true, and_true, true_and, and_false, false_and, and_self, or_true, true_or, or_false, false_or, reduceIte, iff_self, Int32.add_zero, y_10, Classical.not_not]
            exact h
          · have a4 : ¬ (0 ≤ w ∧ w ≤ 1) := fun z => hG ⟨a1, ⟨Int32.not_lt.mp a2, Int32.not_lt.mp a3⟩, z⟩
            simp only [a1, a2, a3, a4, if_true, if_false, not_true_eq_false, not_false_eq_true, and_true, true_and, and_false, false_and, and_self, or_true, true_or, or_false, false_or, reduceIte, iff_self, Int32.add_zero, y_10, Classical.not_not]
            exact h
      · simp only [a1, if_true, if_false, not_true_eq_false, not_false_eq_true, and_true, true_and, and_false, false_and, and_self, or_true, true_or, or_false, false_or, reduceIte, iff_self, Int32.add_zero, y_10, Classical.not_not]
        exact h
    apply cB
    refine hK _ I J (fun K2 h3 => ?_)
    have fin := h3 I J hI
    simp only [z211_0, z211_1, z211_2, z211_3, z211_6, z211_9, z211_10, z211_11, z211_12, z211_15, z211_18, z211_21, z211_22, z211_23, z211_24, z211_25, z211_28, z211_31, z211_33, z211_34, z211_35, z211_38, z211_39, z211_40, z211_41, z211_42, z211_45, z211_47, z211_48, z211_51, z211_53, z211_56, z211_57, z211_58, z211_59, z211_60, z211_63, z211_65, z211_68, z211_69, z211_72, z211_73, sm_cti, sm_ctr, sm_ctn, sm_nbi, Option.toList_some, Option.toList_none, List.cons_append, List.nil_append, ne_eq, reduceCtorEq, not_false_eq_true, Nat.reduceLeDiff, rc103, m_isDebtX (show D < 2 ^ 31 by omega) mF.2.1, m_within, y_w1, y_v6, y_w0, y_v1, y_bit, if_true, if_false, not_true_eq_false, not_false_eq_true, and_true, true_and, and_false, false_and, and_self, or_true, true_or, or_false, false_or, reduceIte, iff_self, Int32.add_zero, y_10, Classical.not_not]
    by_cases a1 : 0 ≤ q ∧ q < nI D
    · by_cases a2 : 1 ≤ t ∧ t ≤ 6
      · have a4 : ¬ (0 ≤ w ∧ w ≤ 1) := fun z => hG ⟨a1, a2, z⟩
        simp only [a1, a2, a4, if_true, if_false, not_true_eq_false, not_false_eq_true, and_true, true_and, and_false, false_and, and_self, or_true, true_or, or_false, false_or, reduceIte, iff_self, Int32.add_zero, y_10, Classical.not_not]
        exact fin
      · simp only [a1, a2, if_true, if_false, not_true_eq_false, not_false_eq_true, and_true, true_and, and_false, false_and, and_self, or_true, true_or, or_false, false_or, reduceIte, iff_self, Int32.add_zero, y_10, Classical.not_not]
        exact fin
    · simp only [a1, if_true, if_false, not_true_eq_false, not_false_eq_true, and_true, true_and, and_false, false_and, and_self, or_true, true_or, or_false, false_or, reduceIte, iff_self, Int32.add_zero, y_10, Classical.not_not]
      exact fin
