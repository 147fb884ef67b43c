/-! both answer alike: later -/
theorem row_look {B s t : Nat} {I : sm_I} {J : sm_J} (hB : B ≤ 50) (hS : iv_sh B I J) (hs : s < 6) (ht : t < 2) :
    (∃ r : Int32, (r = -11 ∨ r = -12) ∧ (∀ (d n : Nat) (K : Option Value → sm_H → Prop), sm_Ok (d + 2) 135 0 [.ref 26, .int (nI s), .int (nI t)] [] (sm_SH n, I, J) K ↔ K (some (.int r)) (sm_SH n, I, J)) ∧ (if I 126 s < 0 then -11 else if I 126 s = 50 + nI t then 1 else -12) = r)
    ∨ ((∀ (d n : Nat) (K : Option Value → sm_H → Prop), sm_Ok (d + 2) 135 0 [.ref 26, .int (nI s), .int (nI t)] [] (sm_SH n, I, J) K ↔ K (some (.int 0)) (sm_SH n, I, J)) ∧ (if I 126 s < 0 then -11 else if I 126 s = 50 + nI t then 1 else -12) = (1 : Int32) ∧ ∃ m el, rowb s t m el I J) := by
  obtain ⟨k1, k2, k3⟩ := y_shelf hs
  obtain ⟨h1, h2⟩ := hS s hs
  have e50 : (50 : Int32) + nI t = nI (50 + t) := nI_add 50 t
  have run : ∀ (d n : Nat) (K : Option Value → sm_H → Prop), sm_Ok (d + 2) 135 0 [.ref 26, .int (nI s), .int (nI t)] [] (sm_SH n, I, J) K ↔ K (some (.int (if ¬ 0 ≤ I (91 + 2 * s) 1 ∧ I (91 + 2 * s) 2 = -1 then -11 else if ¬ I (91 + 2 * s) 2 = -1 ∧ I (91 + 2 * s) 2 = nI t then 0 else -12))) (sm_SH n, I, J) := by
    intro d n K
    simp only [z135_0, z135_1, z135_4, z135_5, z135_6, z135_9, z135_12, z135_14, z135_15, z135_16, z135_19, z135_20, z135_21, z135_22, z135_25, z135_28, z135_29, z135_32, z135_34, sm_cti, sm_ctr, sm_ctn, sm_nbi, Option.toList_some, Option.toList_none, List.cons_append, List.nil_append, ne_eq, reduceCtorEq, not_false_eq_true, Nat.reduceLeDiff, kc26, kc90, rf26_12, k1, sm_rc_of k1, y_isEmpty _ _ _ _ _ k1, y_isRowOf _ _ _ _ _ k1, y_inN hs (by decide), nI_clamp (show s < 2 ^ 31 by omega), y_bit, if_true, if_false, not_true_eq_false, not_false_eq_true, and_true, true_and, and_false, false_and, and_self, or_true, true_or, or_false, false_or, reduceIte, iff_self, Int32.add_zero, y_10, Classical.not_not]
    generalize I (91 + 2 * s) 2 = u2
    generalize I (91 + 2 * s) 1 = u1
    by_cases z1 : u2 = -1
    · by_cases z2 : 0 ≤ u1 <;> simp only [z1, z2, if_true, if_false, not_true_eq_false, not_false_eq_true, and_true, true_and, and_false, false_and, and_self, or_true, true_or, or_false, false_or, reduceIte, iff_self, Int32.add_zero, y_10, Classical.not_not]
    · by_cases z2 : u2 = nI t
      · subst z2
        simp only [z1, if_true, if_false, not_true_eq_false, not_false_eq_true, and_true, true_and, and_false, false_and, and_self, or_true, true_or, or_false, false_or, reduceIte, iff_self, Int32.add_zero, y_10, Classical.not_not]
      · simp only [z1, z2, if_true, if_false, not_true_eq_false, not_false_eq_true, and_true, true_and, and_false, false_and, and_self, or_true, true_or, or_false, false_or, reduceIte, iff_self, Int32.add_zero, y_10, Classical.not_not]
  rw [e50]
  rcases h1 with ⟨a1, a2, a3⟩ | ⟨b, hb, a1, a2, a3⟩ | ⟨q, m, hq, hm, a1, a2, a3, a4, a5, a6⟩
  · refine Or.inl ⟨-11, Or.inl rfl, fun d n K => ?_, ?_⟩
    · rw [run, a2, a3, if_pos (by decide)]
    · rw [a1, if_pos (by decide)]
  · refine Or.inl ⟨-12, Or.inr rfl, fun d n K => ?_, ?_⟩
    · rw [run, a2, a3, if_neg (fun z => z.1 (nI_pos' (by omega))), if_neg (fun z => z.1 rfl)]
    · rw [a1, if_neg (nI_pos (by omega)), if_neg (fun z => by have := (nI_eq (by omega) (by omega)).mp z; omega)]
  · have n1 := y_nm1 (t := q) (by omega)
    by_cases hqt : q = t
    · subst hqt
      refine Or.inr ⟨fun d n K => ?_, ?_, m, fun j => (J (92 + 2 * s) j).toInt32, hs, hm, a2, a3, a4, a1, a5, fun j hj => ?_⟩
      · rw [run, a2, a3, if_neg (fun z => n1 z.2), if_pos ⟨n1, rfl⟩]
      · rw [a1, if_neg (nI_pos (by omega)), if_pos rfl]
      · obtain ⟨v, hv⟩ := a6 ht j hj
        dsimp only
        rw [← h2 j hj, hv, t64]
        exact ⟨rfl, rfl⟩
    · refine Or.inl ⟨-12, Or.inr rfl, fun d n K => ?_, ?_⟩
      · rw [run, a2, a3, if_neg (fun z => n1 z.2), if_neg (fun z => hqt ((nI_eq (by omega) (by omega)).mp z.2))]
      · rw [a1, if_neg (nI_pos (by omega)), if_neg (fun z => by have := (nI_eq (by omega) (by omega)).mp z; omega)]
theorem c_laterB {I : sm_I} {x m q w : Int32} (hG : ¬ ((0 ≤ x ∧ x ≤ 5) ∧ (0 ≤ m ∧ m ≤ 40) ∧ (0 ≤ w ∧ w ≤ 2) ∧ ((w = 0 ∧ (0 ≤ q ∧ q < I 34 7)) ∨ (¬ w = 0 ∧ (0 ≤ q ∧ q < I 34 6))))) (d n : Nat) (J : sm_J) (K : Option Value → sm_H → Prop) : sm_Ok (d + 2) 92 0 [.ref 26, .int x, .int m, .int q, .int w, .null] [] (sm_SH n, I, J) K ↔ K (some (.int (-1))) (sm_SH n, I, J) := by
  simp only [z92_0, z92_1, z92_4, z92_7, z92_8, z92_10, z92_13, z92_16, z92_18, z92_19, z92_22, z92_25, z92_26, z92_27, z92_29, z92_32, z92_33, z92_36, z92_37, z92_40, z92_43, z92_46, z92_47, z92_50, z92_51, z92_54, z92_57, z92_58, z92_59, z92_60, z92_61, z92_62, z92_65, z92_67, z92_69, z92_72, z92_74, z92_75, z92_76, z92_77, z92_78, z92_81, z92_82, z92_84, z92_112, z92_113, z92_116, z92_119, z92_120, z92_121, z92_124, z92_125, z92_128, z92_131, z92_132, z92_133, z92_136, z92_137, z92_140, z92_143, z92_144, z92_145, sm_cti, sm_ctr, sm_ctn, sm_nbi, Option.toList_some, Option.toList_none, List.cons_append, List.nil_append, ne_eq, reduceCtorEq, not_false_eq_true, Nat.reduceLeDiff, kc26, rc34, rf26_2, y_isShelf, y_within, y_isDebt, y_isOne, y_bit]
  by_cases g1 : 0 ≤ x ∧ x ≤ 5
  · by_cases g2 : 0 ≤ m ∧ m ≤ 40
    · by_cases g3 : 0 ≤ w ∧ w ≤ 2
      · by_cases g0 : w = 0
        · have g4 : ¬ (0 ≤ q ∧ q < I 34 7) := fun z => hG ⟨g1, g2, g3, Or.inl ⟨g0, z⟩⟩
          have g3' : 0 ≤ (0 : Int32) ∧ (0 : Int32) ≤ 2 := by decide
          simp only [g1, g2, g3', g0, g4, if_true, if_false, not_true_eq_false, not_false_eq_true, and_true, true_and, and_false, false_and, and_self, or_true, true_or, or_false, false_or, reduceIte, iff_self, Int32.add_zero, y_10, Classical.not_not]
        · have g4 : ¬ (0 ≤ q ∧ q < I 34 6) := fun z => hG ⟨g1, g2, g3, Or.inr ⟨g0, z⟩⟩
          simp only [g1, g2, g3, g0, g4, if_true, if_false, not_true_eq_false, not_false_eq_true, and_true, true_and, and_false, false_and, and_self, or_true, true_or, or_false, false_or, reduceIte, iff_self, Int32.add_zero, y_10, Classical.not_not]
      · simp only [g1, g2, g3, if_true, if_false, not_true_eq_false, not_false_eq_true, and_true, true_and, and_false, false_and, and_self, or_true, true_or, or_false, false_or, reduceIte, iff_self, Int32.add_zero, y_10, Classical.not_not]
    · simp only [g1, g2, if_true, if_false, not_true_eq_false, not_false_eq_true, and_true, true_and, and_false, false_and, and_self, or_true, true_or, or_false, false_or, reduceIte, iff_self, Int32.add_zero, y_10, Classical.not_not]
  · simp only [g1, if_true, if_false, not_true_eq_false, not_false_eq_true, and_true, true_and, and_false, false_and, and_self, or_true, true_or, or_false, false_or, reduceIte, iff_self, Int32.add_zero, y_10, Classical.not_not]
theorem m_rowR (I : sm_I) (x c : Int32) : ((if 0 ≤ x ∧ x ≤ 5 then (if I 126 x.toNatClampNeg < 0 then -11 else if I 126 x.toNatClampNeg = c then 1 else -12) else -1) = (-1 : Int32)) = (¬ (0 ≤ x ∧ x ≤ 5)) := by
  apply propext
  by_cases h : 0 ≤ x ∧ x ≤ 5
  · rw [if_pos h]
    refine ⟨fun z => ?_, fun z => absurd h z⟩
    exfalso
    revert z
    split
    · decide
    · split <;> decide
  · rw [if_neg h]
    exact ⟨fun _ => h, fun _ => rfl⟩
theorem m_rowR2 (I : sm_I) (k : Nat) (c : Int32) : ((if I 126 k < 0 then -11 else if I 126 k = c then 1 else -12) = (-1 : Int32)) = False := by
  apply propext
  refine ⟨fun z => ?_, fun z => z.elim⟩
  revert z
  split
  · decide
  · split <;> decide
theorem m_laterB {P D : Nat} {I : sm_I} (hP : P < 2 ^ 31) (hD : D < 2 ^ 31) (h6 : I 103 6 = nI P) (h7 : I 103 7 = nI D) {x m q w : Int32} (hG : ¬ ((0 ≤ x ∧ x ≤ 5) ∧ (0 ≤ m ∧ m ≤ 40) ∧ (0 ≤ w ∧ w ≤ 2) ∧ ((w = 0 ∧ (0 ≤ q ∧ q < nI D)) ∨ (¬ w = 0 ∧ (0 ≤ q ∧ q < nI P))))) (d n : Nat) (J : sm_J) (K : Option Value → sm_H → Prop) : sm_Ok (d + 3) 188 0 [.ref 103, .int x, .int m, .int q, .int w] [] (sm_SH n, I, J) K ↔ K (some (.int (-1))) (sm_SH n, I, J) := by
  simp only [z188_0, z188_1, z188_2, z188_3, z188_6, z188_7, z188_10, z188_11, z188_12, z188_13, z188_16, z188_19, z188_22, z188_24, z188_25, z188_26, z188_29, z188_32, z188_35, z188_37, z188_40, z188_41, z188_42, z188_43, z188_46, z188_49, z188_52, z188_53, z188_54, z188_55, z188_58, z188_61, z188_62, z188_63, z188_64, z188_65, z188_66, z188_69, z188_72, z188_73, z188_74, z188_75, z188_78, z188_79, z188_80, z188_81, z188_82, z188_85, z188_86, z188_88, z188_91, z188_92, z188_95, z188_96, z188_97, z188_100, z188_102, z188_103, z188_106, z188_107, z188_110, z188_111, z188_112, z188_115, z188_116, z188_119, z188_120, z188_121, sm_cti, sm_ctr, sm_ctn, sm_nbi, Option.toList_some, Option.toList_none, List.cons_append, List.nil_append, ne_eq, reduceCtorEq, not_false_eq_true, Nat.reduceLeDiff, rc103, m_rowIs, m_rowR, m_within, y_w0, y_v40, y_v2, m_isDebtX hD h7, m_isOneX hP h6, y_bit]
  by_cases g1 : 0 ≤ x ∧ x ≤ 5
  · by_cases g2 : 0 ≤ m ∧ m ≤ 40
    · by_cases g3 : 0 ≤ w ∧ w ≤ 2
      · by_cases g0 : w = 0
        · have g4 : ¬ (0 ≤ q ∧ q < nI D) := fun z => hG ⟨g1, g2, g3, Or.inl ⟨g0, z⟩⟩
          have g3' : 0 ≤ (0 : Int32) ∧ (0 : Int32) ≤ 2 := by decide
          simp only [g1, g2, g3', g0, g4, if_true, if_false, not_true_eq_false, not_false_eq_true, and_true, true_and, and_false, false_and, and_self, or_true, true_or, or_false, false_or, reduceIte, iff_self, Int32.add_zero, y_10, Classical.not_not]
        · have g4 : ¬ (0 ≤ q ∧ q < nI P) := fun z => hG ⟨g1, g2, g3, Or.inr ⟨g0, z⟩⟩
          simp only [g1, g2, g3, g0, g4, if_true, if_false, not_true_eq_false, not_false_eq_true, and_true, true_and, and_false, false_and, and_self, or_true, true_or, or_false, false_or, reduceIte, iff_self, Int32.add_zero, y_10, Classical.not_not]
      · simp only [g1, g2, g3, if_true, if_false, not_true_eq_false, not_false_eq_true, and_true, true_and, and_false, false_and, and_self, or_true, true_or, or_false, false_or, reduceIte, iff_self, Int32.add_zero, y_10, Classical.not_not]
    · simp only [g1, g2, if_true, if_false, not_true_eq_false, not_false_eq_true, and_true, true_and, and_false, false_and, and_self, or_true, true_or, or_false, false_or, reduceIte, iff_self, Int32.add_zero, y_10, Classical.not_not]
  · simp only [g1, if_true, if_false, not_true_eq_false, not_false_eq_true, and_true, true_and, and_false, false_and, and_self, or_true, true_or, or_false, false_or, reduceIte, iff_self, Int32.add_zero, y_10, Classical.not_not]
theorem pw_later {n : Nat} {xs : Nat → Int32} {I : sm_I} {J : sm_J} (hI : Inv xs I J) (x m q w : Int32) : pw n I J 92 [.ref 26, .int x, .int m, .int q, .int w, .null] 188 [.ref 103, .int x, .int m, .int q, .int w] (fun I2 J2 => Inv xs I2 J2) := by
  obtain ⟨P, D, B, i1, i2, i3, i4, i5, i6, i7, i8⟩ := id hI
  obtain ⟨f, a, b, hb, cF, cT, mF, hz⟩ := fo_pure i2
  obtain ⟨lo, cl, ml⟩ := la_lo i5
  have hB := i7.1
  have h8 := hb.1
  have h12 := hb.2.1
  intro d K hK
  by_cases hG : (0 ≤ x ∧ x ≤ 5) ∧ (0 ≤ m ∧ m ≤ 40) ∧ (0 ≤ w ∧ w ≤ 2) ∧ ((w = 0 ∧ (0 ≤ q ∧ q < nI D)) ∨ (¬ w = 0 ∧ (0 ≤ q ∧ q < nI P)))
  · obtain ⟨g1, g2, g3, g4⟩ := hG
    obtain ⟨s, hs, rfl⟩ := y_idx6 g1
    obtain ⟨nn, hnn, rfl⟩ := nI_of2 (M := 40) (n := 40) (by decide) (Int32.not_lt.mpr g2.1) g2.2
    have cs := nI_clamp (show s < 2 ^ 31 by omega)
    -- the class up to the row
    have pre : sm_Ok (d + 200) 92 59 [.ref 26, .int (nI s), .int (nI nn), .int q, .int w, .null] [] (sm_SH n, I, J) K → sm_Ok (d + 200) 92 0 [.ref 26, .int (nI s), .int (nI nn), .int q, .int w, .null] [] (sm_SH n, I, J) K := by
      intro h
      rcases g4 with ⟨g0, g5⟩ | ⟨g0, g5⟩
      · subst g0
        simp only [z92_0, z92_1, z92_4, z92_7, z92_8, z92_10, z92_13, z92_16, z92_18, z92_19, z92_22, z92_25, z92_26, z92_27, z92_29, z92_32, z92_33, z92_36, z92_37, z92_40, z92_43, z92_46, z92_47, z92_50, z92_51, z92_54, z92_57, z92_58, z92_59, z92_60, z92_61, z92_62, z92_65, z92_67, z92_69, z92_72, z92_74, z92_75, z92_76, z92_77, z92_78, z92_81, z92_82, z92_84, z92_112, z92_113, z92_116, z92_119, z92_120, z92_121, z92_124, z92_125, z92_128, z92_131, z92_132, z92_133, z92_136, z92_137, z92_140, z92_143, z92_144, z92_145, sm_cti, sm_ctr, sm_ctn, sm_nbi, Option.toList_some, Option.toList_none, List.cons_append, List.nil_append, ne_eq, reduceCtorEq, not_false_eq_true, Nat.reduceLeDiff, kc26, rc26, rc34, rf26_2, y_isShelf, y_within, y_isDebt, y_isOne, y_bit, g1, g2, g3, g5, cF.2.1, cF.1, if_true, if_false, not_true_eq_false, not_false_eq_true, and_true, true_and, and_false, false_and, and_self, or_true, true_or, or_false, false_or, reduceIte, iff_self, Int32.add_zero, y_10, Classical.not_not] at h ⊢
        exact h
      · simp only [z92_0, z92_1, z92_4, z92_7, z92_8, z92_10, z92_13, z92_16, z92_18, z92_19, z92_22, z92_25, z92_26, z92_27, z92_29, z92_32, z92_33, z92_36, z92_37, z92_40, z92_43, z92_46, z92_47, z92_50, z92_51, z92_54, z92_57, z92_58, z92_59, z92_60, z92_61, z92_62, z92_65, z92_67, z92_69, z92_72, z92_74, z92_75, z92_76, z92_77, z92_78, z92_81, z92_82, z92_84, z92_112, z92_113, z92_116, z92_119, z92_120, z92_121, z92_124, z92_125, z92_128, z92_131, z92_132, z92_133, z92_136, z92_137, z92_140, z92_143, z92_144, z92_145, sm_cti, sm_ctr, sm_ctn, sm_nbi, Option.toList_some, Option.toList_none, List.cons_append, List.nil_append, ne_eq, reduceCtorEq, not_false_eq_true, Nat.reduceLeDiff, kc26, rc26, rc34, rf26_2, y_isShelf, y_within, y_isDebt, y_isOne, y_bit, g1, g2, g3, g0, g5, cF.2.1, cF.1, if_true, if_false, not_true_eq_false, not_false_eq_true, and_true, true_and, and_false, false_and, and_self, or_true, true_or, or_false, false_or, reduceIte, iff_self, Int32.add_zero, y_10, Classical.not_not] at h ⊢
        exact h
    have preM : ∀ (I1 : sm_I) (K2 : Option Value → sm_H → Prop), mFo P D f a b I1 → sm_Ok (d + 200) 188 63 [.ref 103, .int (nI s), .int (nI nn), .int q, .int w] [] (sm_SH n, I1, J) K2 → sm_Ok (d + 200) 188 0 [.ref 103, .int (nI s), .int (nI nn), .int q, .int w] [] (sm_SH n, I1, J) K2 := by
      intro I1 K2 mF1 h
      rcases g4 with ⟨g0, g5⟩ | ⟨g0, g5⟩
      · subst g0
        simp only [z188_0, z188_1, z188_2, z188_3, z188_6, z188_7, z188_10, z188_11, z188_12, z188_13, z188_16, z188_19, z188_22, z188_24, z188_25, z188_26, z188_29, z188_32, z188_35, z188_37, z188_40, z188_41, z188_42, z188_43, z188_46, z188_49, z188_52, z188_53, z188_54, z188_55, z188_58, z188_61, z188_62, z188_63, z188_64, z188_65, z188_66, z188_69, z188_72, z188_73, z188_74, z188_75, z188_78, z188_79, z188_80, z188_81, z188_82, z188_85, z188_86, z188_88, z188_91, z188_92, z188_95, z188_96, z188_97, z188_100, z188_102, z188_103, z188_106, z188_107, z188_110, z188_111, z188_112, z188_115, z188_116, z188_119, z188_120, z188_121, sm_cti, sm_ctr, sm_ctn, sm_nbi, Option.toList_some, Option.toList_none, List.cons_append, List.nil_append, ne_eq, reduceCtorEq, not_false_eq_true, Nat.reduceLeDiff, rc103, m_rowIs, m_rowR, m_rowR2, m_within, y_w0, y_v40, y_v2, m_isDebtX (show D < 2 ^ 31 by omega) mF1.2.1, y_bit, g1, g2, g3, g5, if_true, if_false, not_true_eq_false, not_false_eq_true, and_true, true_and, and_false, false_and, and_self, or_true, true_or, or_false, false_or, reduceIte, iff_self, Int32.add_zero, y_10, Classical.not_not] at h ⊢
        exact h
      · simp only [z188_0, z188_1, z188_2, z188_3, z188_6, z188_7, z188_10, z188_11, z188_12, z188_13, z188_16, z188_19, z188_22, z188_24, z188_25, z188_26, z188_29, z188_32, z188_35, z188_37, z188_40, z188_41, z188_42, z188_43, z188_46, z188_49, z188_52, z188_53, z188_54, z188_55, z188_58, z188_61, z188_62, z188_63, z188_64, z188_65, z188_66, z188_69, z188_72, z188_73, z188_74, z188_75, z188_78, z188_79, z188_80, z188_81, z188_82, z188_85, z188_86, z188_88, z188_91, z188_92, z188_95, z188_96, z188_97, z188_100, z188_102, z188_103, z188_106, z188_107, z188_110, z188_111, z188_112, z188_115, z188_116, z188_119, z188_120, z188_121, sm_cti, sm_ctr, sm_ctn, sm_nbi, Option.toList_some, Option.toList_none, List.cons_append, List.nil_append, ne_eq, reduceCtorEq, not_false_eq_true, Nat.reduceLeDiff, rc103, m_rowIs, m_rowR, m_rowR2, m_within, y_w0, y_v40, y_v2, m_isOneX (show P < 2 ^ 31 by omega) mF1.1, y_bit, g1, g2, g3, g0, g5, if_true, if_false, not_true_eq_false, not_false_eq_true, and_true, true_and, and_false, false_and, and_self, or_true, true_or, or_false, false_or, reduceIte, iff_self, Int32.add_zero, y_10, Classical.not_not] at h ⊢
        exact h
    apply pre
    rcases row_look hB i8 hs (t := 0) (by decide) with ⟨r, hr, h1, h2⟩ | ⟨h1, h2, m, el, hR⟩
    · rw [nI_0] at h1
      rw [nI_0, Int32.add_zero] at h2
      have r0 : ¬ r = 0 := by rcases hr with rfl | rfl <;> decide
      have r1 : r < 0 := by rcases hr with rfl | rfl <;> decide
      have r2 : ¬ 0 ≤ r := Int32.not_le.mpr r1
      simp only [z92_0, z92_1, z92_4, z92_7, z92_8, z92_10, z92_13, z92_16, z92_18, z92_19, z92_22, z92_25, z92_26, z92_27, z92_29, z92_32, z92_33, z92_36, z92_37, z92_40, z92_43, z92_46, z92_47, z92_50, z92_51, z92_54, z92_57, z92_58, z92_59, z92_60, z92_61, z92_62, z92_65, z92_67, z92_69, z92_72, z92_74, z92_75, z92_76, z92_77, z92_78, z92_81, z92_82, z92_84, z92_112, z92_113, z92_116, z92_119, z92_120, z92_121, z92_124, z92_125, z92_128, z92_131, z92_132, z92_133, z92_136, z92_137, z92_140, z92_143, z92_144, z92_145, sm_cti, sm_ctr, sm_ctn, sm_nbi, Option.toList_some, Option.toList_none, List.cons_append, List.nil_append, ne_eq, reduceCtorEq, not_false_eq_true, Nat.reduceLeDiff, rc26, h1, r0, if_true, if_false, not_true_eq_false, not_false_eq_true, and_true, true_and, and_false, false_and, and_self, or_true, true_or, or_false, false_or, reduceIte, iff_self, Int32.add_zero, y_10, Classical.not_not]
      refine hK r I J (fun K2 h3 => preM I K2 mF ?_)
      simp only [z188_0, z188_1, z188_2, z188_3, z188_6, z188_7, z188_10, z188_11, z188_12, z188_13, z188_16, z188_19, z188_22, z188_24, z188_25, z188_26, z188_29, z188_32, z188_35, z188_37, z188_40, z188_41, z188_42, z188_43, z188_46, z188_49, z188_52, z188_53, z188_54, z188_55, z188_58, z188_61, z188_62, z188_63, z188_64, z188_65, z188_66, z188_69, z188_72, z188_73, z188_74, z188_75, z188_78, z188_79, z188_80, z188_81, z188_82, z188_85, z188_86, z188_88, z188_91, z188_92, z188_95, z188_96, z188_97, z188_100, z188_102, z188_103, z188_106, z188_107, z188_110, z188_111, z188_112, z188_115, z188_116, z188_119, z188_120, z188_121, sm_cti, sm_ctr, sm_ctn, sm_nbi, Option.toList_some, Option.toList_none, List.cons_append, List.nil_append, ne_eq, reduceCtorEq, not_false_eq_true, Nat.reduceLeDiff, rc103, m_rowIs, g1, cs, h2, r2, if_true, if_false, not_true_eq_false, not_false_eq_true, and_true, true_and, and_false, false_and, and_self, or_true, true_or, or_false, false_or, reduceIte, iff_self, Int32.add_zero, y_10, Classical.not_not]
      exact h3 I J hI
    · rw [nI_0] at h1
      rw [nI_0, Int32.add_zero] at h2
      simp only [z92_0, z92_1, z92_4, z92_7, z92_8, z92_10, z92_13, z92_16, z92_18, z92_19, z92_22, z92_25, z92_26, z92_27, z92_29, z92_32, z92_33, z92_36, z92_37, z92_40, z92_43, z92_46, z92_47, z92_50, z92_51, z92_54, z92_57, z92_58, z92_59, z92_60, z92_61, z92_62, z92_65, z92_67, z92_69, z92_72, z92_74, z92_75, z92_76, z92_77, z92_78, z92_81, z92_82, z92_84, z92_112, z92_113, z92_116, z92_119, z92_120, z92_121, z92_124, z92_125, z92_128, z92_131, z92_132, z92_133, z92_136, z92_137, z92_140, z92_143, z92_144, z92_145, sm_cti, sm_ctr, sm_ctn, sm_nbi, Option.toList_some, Option.toList_none, List.cons_append, List.nil_append, ne_eq, reduceCtorEq, not_false_eq_true, Nat.reduceLeDiff, rc26, h1, if_true, if_false, not_true_eq_false, not_false_eq_true, and_true, true_and, and_false, false_and, and_self, or_true, true_or, or_false, false_or, reduceIte, iff_self, Int32.add_zero, y_10, Classical.not_not]
      refine c_think hb hR cF cl cT hnn (d + 194) n _ (fun I1 w1 t1 => ?_)
      have mF1 : mFo P D f a b I1 := mFo_f mF (fun x c hx => w1 x c (by omega))
      have R1 : rowb s 0 m el I1 J := rowb_f hR (fun x c hx => w1 x c (by omega))
      have h2' : (if I1 126 s < 0 then -11 else if I1 126 s = 50 then 1 else -12) = (1 : Int32) := by rw [w1 _ _ (by omega)]; exact h2
      have one : (0 : Int32) ≤ 1 := by decide
      generalize hG2 : rnt P D f a b lo (sl el) f (min nn (nso D m el)) = G2 at *
      have fin : ∀ v : Int32, (w = 0 ∧ (∃ e : Nat, e < D ∧ q = nI e ∧ v = nI (G2 (40 + e))) ∨ w = 1 ∧ (∃ p : Nat, p < P ∧ q = nI p ∧ v = nI (G2 (24 + p))) ∨ w = 2 ∧ (∃ p : Nat, p < P ∧ q = nI p ∧ v = nI (G2 (32 + p)))) → K (some (.int v)) (sm_SH n, I1, J) := by
        intro v hv
        refine hK v I1 J (fun K2 h3 => preM I1 K2 mF1 ?_)
        simp only [z188_0, z188_1, z188_2, z188_3, z188_6, z188_7, z188_10, z188_11, z188_12, z188_13, z188_16, z188_19, z188_22, z188_24, z188_25, z188_26, z188_29, z188_32, z188_35, z188_37, z188_40, z188_41, z188_42, z188_43, z188_46, z188_49, z188_52, z188_53, z188_54, z188_55, z188_58, z188_61, z188_62, z188_63, z188_64, z188_65, z188_66, z188_69, z188_72, z188_73, z188_74, z188_75, z188_78, z188_79, z188_80, z188_81, z188_82, z188_85, z188_86, z188_88, z188_91, z188_92, z188_95, z188_96, z188_97, z188_100, z188_102, z188_103, z188_106, z188_107, z188_110, z188_111, z188_112, z188_115, z188_116, z188_119, z188_120, z188_121, sm_cti, sm_ctr, sm_ctn, sm_nbi, Option.toList_some, Option.toList_none, List.cons_append, List.nil_append, ne_eq, reduceCtorEq, not_false_eq_true, Nat.reduceLeDiff, rc103, m_rowIs, g1, cs, h2', one, if_true, if_false, not_true_eq_false, not_false_eq_true, and_true, true_and, and_false, false_and, and_self, or_true, true_or, or_false, false_or, reduceIte, iff_self, Int32.add_zero, y_10, Classical.not_not]
        refine m_goes hb R1 mF1 (mLw_f ml (fun x c hx => w1 x c (by omega))) hnn (d + 150) n _ (fun I2 w2 t2 s2 s3 => ?_)
        rw [hG2] at t2
        have done := h3 I2 J (Inv_0 hI (ag0 (fun x c hx => by rw [w2 x c (by omega), w1 x c (by omega)])))
        have one' : ¬ (1 : Int32) = 0 := by decide
        have two' : ¬ (2 : Int32) = 0 := by decide
        have two1 : ¬ (2 : Int32) = 1 := by decide
        rcases hv with ⟨rfl, e, he, rfl, rfl⟩ | ⟨rfl, p, hp, rfl, rfl⟩ | ⟨rfl, p, hp, rfl, rfl⟩
        · simp only [z188_0, z188_1, z188_2, z188_3, z188_6, z188_7, z188_10, z188_11, z188_12, z188_13, z188_16, z188_19, z188_22, z188_24, z188_25, z188_26, z188_29, z188_32, z188_35, z188_37, z188_40, z188_41, z188_42, z188_43, z188_46, z188_49, z188_52, z188_53, z188_54, z188_55, z188_58, z188_61, z188_62, z188_63, z188_64, z188_65, z188_66, z188_69, z188_72, z188_73, z188_74, z188_75, z188_78, z188_79, z188_80, z188_81, z188_82, z188_85, z188_86, z188_88, z188_91, z188_92, z188_95, z188_96, z188_97, z188_100, z188_102, z188_103, z188_106, z188_107, z188_110, z188_111, z188_112, z188_115, z188_116, z188_119, z188_120, z188_121, sm_cti, sm_ctr, sm_ctn, sm_nbi, Option.toList_some, Option.toList_none, List.cons_append, List.nil_append, ne_eq, reduceCtorEq, not_false_eq_true, Nat.reduceLeDiff, kc103, kc115, rf103_22, t2.2.1 e he, y_inN (show e < 12 by omega) (by decide), nI_clamp (show e < 2 ^ 31 by omega), if_true, if_false, not_true_eq_false, not_false_eq_true, and_true, true_and, and_false, false_and, and_self, or_true, true_or, or_false, false_or, reduceIte, iff_self, Int32.add_zero, y_10, Classical.not_not]
          exact done
        · simp only [z188_0, z188_1, z188_2, z188_3, z188_6, z188_7, z188_10, z188_11, z188_12, z188_13, z188_16, z188_19, z188_22, z188_24, z188_25, z188_26, z188_29, z188_32, z188_35, z188_37, z188_40, z188_41, z188_42, z188_43, z188_46, z188_49, z188_52, z188_53, z188_54, z188_55, z188_58, z188_61, z188_62, z188_63, z188_64, z188_65, z188_66, z188_69, z188_72, z188_73, z188_74, z188_75, z188_78, z188_79, z188_80, z188_81, z188_82, z188_85, z188_86, z188_88, z188_91, z188_92, z188_95, z188_96, z188_97, z188_100, z188_102, z188_103, z188_106, z188_107, z188_110, z188_111, z188_112, z188_115, z188_116, z188_119, z188_120, z188_121, sm_cti, sm_ctr, sm_ctn, sm_nbi, Option.toList_some, Option.toList_none, List.cons_append, List.nil_append, ne_eq, reduceCtorEq, not_false_eq_true, Nat.reduceLeDiff, kc103, kc113, rf103_20, one', (t2.1 p hp).1, y_inN (show p < 8 by omega) (by decide), nI_clamp (show p < 2 ^ 31 by omega), if_true, if_false, not_true_eq_false, not_false_eq_true, and_true, true_and, and_false, false_and, and_self, or_true, true_or, or_false, false_or, reduceIte, iff_self, Int32.add_zero, y_10, Classical.not_not]
          exact done
        · simp only [z188_0, z188_1, z188_2, z188_3, z188_6, z188_7, z188_10, z188_11, z188_12, z188_13, z188_16, z188_19, z188_22, z188_24, z188_25, z188_26, z188_29, z188_32, z188_35, z188_37, z188_40, z188_41, z188_42, z188_43, z188_46, z188_49, z188_52, z188_53, z188_54, z188_55, z188_58, z188_61, z188_62, z188_63, z188_64, z188_65, z188_66, z188_69, z188_72, z188_73, z188_74, z188_75, z188_78, z188_79, z188_80, z188_81, z188_82, z188_85, z188_86, z188_88, z188_91, z188_92, z188_95, z188_96, z188_97, z188_100, z188_102, z188_103, z188_106, z188_107, z188_110, z188_111, z188_112, z188_115, z188_116, z188_119, z188_120, z188_121, sm_cti, sm_ctr, sm_ctn, sm_nbi, Option.toList_some, Option.toList_none, List.cons_append, List.nil_append, ne_eq, reduceCtorEq, not_false_eq_true, Nat.reduceLeDiff, kc103, kc114, rf103_21, two', two1, (t2.1 p hp).2, y_inN (show p < 8 by omega) (by decide), nI_clamp (show p < 2 ^ 31 by omega), if_true, if_false, not_true_eq_false, not_false_eq_true, and_true, true_and, and_false, false_and, and_self, or_true, true_or, or_false, false_or, reduceIte, iff_self, Int32.add_zero, y_10, Classical.not_not]
          exact done
      have w012 : w = 0 ∨ w = 1 ∨ w = 2 := by
        obtain ⟨k, hk, rfl⟩ := nI_of2 (M := 2) (n := 2) (by decide) (Int32.not_lt.mpr g3.1) g3.2
        rcases (show k = 0 ∨ k = 1 ∨ k = 2 by omega) with rfl | rfl | rfl <;> decide
      rcases w012 with rfl | rfl | rfl
      · have g5 : 0 ≤ q ∧ q < nI D := by
          rcases g4 with ⟨-, g5⟩ | ⟨g0, -⟩
          · exact g5
          · exact absurd rfl g0
        obtain ⟨e, he, rfl⟩ := y_idx (show D < 2 ^ 31 by omega) g5
        have F := fin (nI (G2 (40 + e))) (Or.inl ⟨rfl, e, he, rfl, rfl⟩)
        simp +decide only [z92_0, z92_1, z92_4, z92_7, z92_8, z92_10, z92_13, z92_16, z92_18, z92_19, z92_22, z92_25, z92_26, z92_27, z92_29, z92_32, z92_33, z92_36, z92_37, z92_40, z92_43, z92_46, z92_47, z92_50, z92_51, z92_54, z92_57, z92_58, z92_59, z92_60, z92_61, z92_62, z92_65, z92_67, z92_69, z92_72, z92_74, z92_75, z92_76, z92_77, z92_78, z92_81, z92_82, z92_84, z92_112, z92_113, z92_116, z92_119, z92_120, z92_121, z92_124, z92_125, z92_128, z92_131, z92_132, z92_133, z92_136, z92_137, z92_140, z92_143, z92_144, z92_145, sm_cti, sm_ctr, sm_ctn, sm_nbi, Option.toList_some, Option.toList_none, List.cons_append, List.nil_append, ne_eq, reduceCtorEq, not_false_eq_true, Nat.reduceLeDiff, kc26, kc44, kc47, rf26_4, rf44_2, t1.2.1 e (by omega), y_inN (show e < 12 by omega) (by decide), nI_clamp (show e < 2 ^ 31 by omega), if_true, if_false, not_true_eq_false, not_false_eq_true, and_true, true_and, and_false, false_and, and_self, or_true, true_or, or_false, false_or, reduceIte, iff_self, Int32.add_zero, y_10, Classical.not_not]
        exact F
      · have g5 : 0 ≤ q ∧ q < nI P := by
          rcases g4 with ⟨g0, -⟩ | ⟨-, g5⟩
          · exact absurd g0 (by decide)
          · exact g5
        obtain ⟨p, hp, rfl⟩ := y_idx (show P < 2 ^ 31 by omega) g5
        have F := fin (nI (G2 (24 + p))) (Or.inr (Or.inl ⟨rfl, p, hp, rfl, rfl⟩))
        simp +decide only [z92_0, z92_1, z92_4, z92_7, z92_8, z92_10, z92_13, z92_16, z92_18, z92_19, z92_22, z92_25, z92_26, z92_27, z92_29, z92_32, z92_33, z92_36, z92_37, z92_40, z92_43, z92_46, z92_47, z92_50, z92_51, z92_54, z92_57, z92_58, z92_59, z92_60, z92_61, z92_62, z92_65, z92_67, z92_69, z92_72, z92_74, z92_75, z92_76, z92_77, z92_78, z92_81, z92_82, z92_84, z92_112, z92_113, z92_116, z92_119, z92_120, z92_121, z92_124, z92_125, z92_128, z92_131, z92_132, z92_133, z92_136, z92_137, z92_140, z92_143, z92_144, z92_145, sm_cti, sm_ctr, sm_ctn, sm_nbi, Option.toList_some, Option.toList_none, List.cons_append, List.nil_append, ne_eq, reduceCtorEq, not_false_eq_true, Nat.reduceLeDiff, kc26, kc44, kc45, rf26_4, rf44_0, (t1.1 p (by omega)).1, y_inN (show p < 8 by omega) (by decide), nI_clamp (show p < 2 ^ 31 by omega), if_true, if_false, not_true_eq_false, not_false_eq_true, and_true, true_and, and_false, false_and, and_self, or_true, true_or, or_false, false_or, reduceIte, iff_self, Int32.add_zero, y_10, Classical.not_not]
        exact F
      · have g5 : 0 ≤ q ∧ q < nI P := by
          rcases g4 with ⟨g0, -⟩ | ⟨-, g5⟩
          · exact absurd g0 (by decide)
          · exact g5
        obtain ⟨p, hp, rfl⟩ := y_idx (show P < 2 ^ 31 by omega) g5
        have F := fin (nI (G2 (32 + p))) (Or.inr (Or.inr ⟨rfl, p, hp, rfl, rfl⟩))
        simp +decide only [z92_0, z92_1, z92_4, z92_7, z92_8, z92_10, z92_13, z92_16, z92_18, z92_19, z92_22, z92_25, z92_26, z92_27, z92_29, z92_32, z92_33, z92_36, z92_37, z92_40, z92_43, z92_46, z92_47, z92_50, z92_51, z92_54, z92_57, z92_58, z92_59, z92_60, z92_61, z92_62, z92_65, z92_67, z92_69, z92_72, z92_74, z92_75, z92_76, z92_77, z92_78, z92_81, z92_82, z92_84, z92_112, z92_113, z92_116, z92_119, z92_120, z92_121, z92_124, z92_125, z92_128, z92_131, z92_132, z92_133, z92_136, z92_137, z92_140, z92_143, z92_144, z92_145, sm_cti, sm_ctr, sm_ctn, sm_nbi, Option.toList_some, Option.toList_none, List.cons_append, List.nil_append, ne_eq, reduceCtorEq, not_false_eq_true, Nat.reduceLeDiff, kc26, kc44, kc46, rf26_4, rf44_1, (t1.1 p (by omega)).2, y_inN (show p < 8 by omega) (by decide), nI_clamp (show p < 2 ^ 31 by omega), if_true, if_false, not_true_eq_false, not_false_eq_true, and_true, true_and, and_false, false_and, and_self, or_true, true_or, or_false, false_or, reduceIte, iff_self, Int32.add_zero, y_10, Classical.not_not]
        exact F
  · rw [c_laterB (by rw [cF.1, cF.2.1]; exact hG) (d + 198)]
    refine hK (-1) I J (fun K2 h3 => ?_)
    rw [m_laterB (by omega) (by omega) mF.1 mF.2.1 hG (d + 197)]
    exact h3 I J hI
