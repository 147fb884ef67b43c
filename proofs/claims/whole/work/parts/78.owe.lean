/-! both answer alike: person, debt -/
def owe (P : Nat) (x y s : Int32) : Prop := (0 ≤ x ∧ x < nI P) ∧ (0 ≤ y ∧ y < nI P) ∧ ¬ x = y ∧ (0 ≤ s ∧ s ≤ 999)
section
variable {P D : Nat} {f a b : Nat → Nat}
theorem c_canOwe {I : sm_I} (hP : I 34 6 = nI P) (d n : Nat) (J : sm_J) (K : Option Value → sm_H → Prop) (x y s : Int32) : sm_Ok (d + 1) 129 0 [.ref 26, .int x, .int y, .int s] [] (sm_SH n, I, J) K ↔ (owe P x y s ∧ K (some (.int 1)) (sm_SH n, I, J)) ∨ (¬ owe P x y s ∧ K (some (.int 0)) (sm_SH n, I, J)) := by
  simp only [z129_42_0, z129_42_1, z129_0, z129_1, z129_4, z129_5, z129_8, z129_11, z129_12, z129_15, z129_16, z129_19, z129_22, z129_23, z129_24, z129_27, z129_28, z129_31, z129_34, z129_37, z129_38, z129_41, z129_42, sm_cti, sm_ctr, sm_ctn, sm_nbi, Option.toList_some, Option.toList_none, List.cons_append, List.nil_append, ne_eq, reduceCtorEq, not_false_eq_true, Nat.reduceLeDiff, kc26, rc34, rf26_2, y_isOne, hP, y_within, y_bit, if_true, if_false, not_true_eq_false, not_false_eq_true, and_true, true_and, and_false, false_and, and_self, or_true, true_or, or_false, false_or, reduceIte, iff_self, Int32.add_zero, y_10, Classical.not_not]
  unfold owe
  by_cases a1 : 0 ≤ x ∧ x < nI P
  · by_cases a2 : 0 ≤ y ∧ y < nI P
    · by_cases a3 : x = y
      · subst a3
        simp only [a1, if_true, if_false, not_true_eq_false, not_false_eq_true, and_true, true_and, and_false, false_and, and_self, or_true, true_or, or_false, false_or, reduceIte, iff_self, Int32.add_zero, y_10, Classical.not_not]
      · by_cases a4 : 0 ≤ s ∧ s ≤ 999
        · simp only [a1, a2, a3, a4, if_true, if_false, not_true_eq_false, not_false_eq_true, and_true, true_and, and_false, false_and, and_self, or_true, true_or, or_false, false_or, reduceIte, iff_self, Int32.add_zero, y_10, Classical.not_not]
        · simp only [a1, a2, a3, a4, if_true, if_false, not_true_eq_false, not_false_eq_true, and_true, true_and, and_false, false_and, and_self, or_true, true_or, or_false, false_or, reduceIte, iff_self, Int32.add_zero, y_10, Classical.not_not]
    · simp only [a1, a2, if_true, if_false, not_true_eq_false, not_false_eq_true, and_true, true_and, and_false, false_and, and_self, or_true, true_or, or_false, false_or, reduceIte, iff_self, Int32.add_zero, y_10, Classical.not_not]
  · simp only [a1, if_true, if_false, not_true_eq_false, not_false_eq_true, and_true, true_and, and_false, false_and, and_self, or_true, true_or, or_false, false_or, reduceIte, iff_self, Int32.add_zero, y_10, Classical.not_not]
theorem m_mayCome {I : sm_I} (hP2 : P < 2 ^ 31) (hP : I 103 6 = nI P) (d n : Nat) (J : sm_J) (K : Option Value → sm_H → Prop) (x y s : Int32) : sm_Ok (d + 2) 158 0 [.ref 103, .long x.toInt64, .null, .long y.toInt64, .null, .long s.toInt64, .null] [] (sm_SH n, I, J) K ↔ (owe P x y s ∧ K (some (.int 1)) (sm_SH n, I, J)) ∨ (¬ owe P x y s ∧ K (some (.int 0)) (sm_SH n, I, J)) := by
  simp only [z158_39_0, z158_39_1, z158_0, z158_1, z158_2, z158_5, z158_8, z158_9, z158_10, z158_13, z158_16, z158_17, z158_18, z158_19, z158_22, z158_24, z158_25, z158_28, z158_31, z158_34, z158_35, z158_38, z158_39, sm_cti, sm_ctr, sm_ctn, sm_nbi, Option.toList_some, Option.toList_none, List.cons_append, List.nil_append, ne_eq, reduceCtorEq, not_false_eq_true, Nat.reduceLeDiff, rc103, m_isOneX hP2 hP, m_within, y_w0, y_v999, y_bit, lg_cmp_eq, i64_inj, if_true, if_false, not_true_eq_false, not_false_eq_true, and_true, true_and, and_false, false_and, and_self, or_true, true_or, or_false, false_or, reduceIte, iff_self, Int32.add_zero, y_10, Classical.not_not]
  unfold owe
  by_cases a1 : 0 ≤ x ∧ x < nI P
  · by_cases a2 : 0 ≤ y ∧ y < nI P
    · by_cases a3 : x = y
      · subst a3
        simp only [a1, if_true, if_false, not_true_eq_false, not_false_eq_true, and_true, true_and, and_false, false_and, and_self, or_true, true_or, or_false, false_or, reduceIte, iff_self, Int32.add_zero, y_10, Classical.not_not]
      · by_cases a4 : 0 ≤ s ∧ s ≤ 999
        · simp only [a1, a2, a3, a4, if_true, if_false, not_true_eq_false, not_false_eq_true, and_true, true_and, and_false, false_and, and_self, or_true, true_or, or_false, false_or, reduceIte, iff_self, Int32.add_zero, y_10, Classical.not_not]
        · simp only [a1, a2, a3, a4, if_true, if_false, not_true_eq_false, not_false_eq_true, and_true, true_and, and_false, false_and, and_self, or_true, true_or, or_false, false_or, reduceIte, iff_self, Int32.add_zero, y_10, Classical.not_not]
    · simp only [a1, a2, if_true, if_false, not_true_eq_false, not_false_eq_true, and_true, true_and, and_false, false_and, and_self, or_true, true_or, or_false, false_or, reduceIte, iff_self, Int32.add_zero, y_10, Classical.not_not]
  · simp only [a1, if_true, if_false, not_true_eq_false, not_false_eq_true, and_true, true_and, and_false, false_and, and_self, or_true, true_or, or_false, false_or, reduceIte, iff_self, Int32.add_zero, y_10, Classical.not_not]
abbrev cAd (I : sm_I) (D : Nat) (x y s : Int32) : sm_I := sm_uI (sm_uI (sm_uI (sm_uI I 38 D x) 39 D y) 34 7 (nI (D + 1))) 43 D s
abbrev mAd (I : sm_I) (D : Nat) (x y s : Int32) : sm_I := sm_uI (sm_uI (sm_uI (sm_uI I 108 D x) 109 D y) 104 (40 + D) s) 103 7 (nI (D + 1))
theorem c_addDebt {I : sm_I} (hD : D < 12) (h7 : I 34 7 = nI D) (d n : Nat) (J : sm_J) (K : Option Value → sm_H → Prop) (x y s : Int32) : sm_Ok (d + 1) 130 0 [.ref 26, .int x, .int y, .int s, .null] [] (sm_SH n, I, J) K ↔ K (some (.int (nI D))) (sm_SH n, cAd I D x y s, J) := by
  have e1 : (if (11 : Int32) < nI D then 11 else nI D) = nI D := by rw [if_neg (show ¬ (11 : Int32) < nI D from nI_nlt (a := 11) (by omega) (by decide))]
  simp only [z130_0, z130_1, z130_4, z130_5, z130_6, z130_9, z130_11, z130_12, z130_15, z130_18, z130_20, z130_21, z130_22, z130_24, z9_0, z9_1, z9_4, z9_6, z9_9, z9_10, z9_11, z9_14, z9_15, z9_16, z9_17, z9_18, z9_21, z9_22, z9_23, z9_24, z9_25, z9_26, z9_27, z9_28, z9_31, z9_32, sm_cti, sm_ctr, sm_ctn, sm_nbi, Option.toList_some, Option.toList_none, List.cons_append, List.nil_append, ne_eq, reduceCtorEq, not_false_eq_true, Nat.reduceLeDiff, kc26, kc34, kc38, kc39, kc40, kc43, rc34, rf26_2, rf26_3, rf34_3, rf34_4, rf40_2, h7, e1, y_inN hD (by decide), nI_clamp (show D < 2 ^ 31 by omega), nI_1, if_true, if_false, not_true_eq_false, not_false_eq_true, and_true, true_and, and_false, false_and, and_self, or_true, true_or, or_false, false_or, reduceIte, iff_self, Int32.add_zero, y_10, Classical.not_not]
theorem m_adds {I : sm_I} (hD : D < 12) (h7 : I 103 7 = nI D) (d n : Nat) (J : sm_J) (K : Option Value → sm_H → Prop) (x y s : Int32) : sm_Ok d 159 0 [.ref 103, .int x, .int y, .int s] [] (sm_SH n, I, J) K ↔ K none (sm_SH n, mAd I D x y s, J) := by
  have a4 : (40 : Int32) + nI D = nI (40 + D) := nI_add 40 D
  have q1 : sm_uI I 108 D x 103 7 = nI D := by rw [uI_q _ _ (by omega), h7]
  have q2 : sm_uI (sm_uI I 108 D x) 109 D y 103 7 = nI D := by rw [uI_q _ _ (by omega), q1]
  have q3 : sm_uI (sm_uI (sm_uI I 108 D x) 109 D y) 104 (40 + D) s 103 7 = nI D := by rw [uI_q _ _ (by omega), q2]
  simp only [z159_0, z159_1, z159_4, z159_5, z159_8, z159_9, z159_10, z159_11, z159_14, z159_15, z159_18, z159_19, z159_20, z159_21, z159_24, z159_26, z159_27, z159_30, z159_31, z159_32, z159_33, z159_34, z159_35, z159_38, z159_39, z159_40, z159_43, sm_cti, sm_ctr, sm_ctn, sm_nbi, Option.toList_some, Option.toList_none, List.cons_append, List.nil_append, ne_eq, reduceCtorEq, not_false_eq_true, Nat.reduceLeDiff, kc103, kc104, kc108, kc109, rf103_0, rf103_8, rf103_9, h7, q1, q2, q3, a4, y_inN hD (by decide), nI_clamp (show D < 2 ^ 31 by omega), y_inN (show 40 + D < 54 by omega) (by decide), nI_clamp (show 40 + D < 2 ^ 31 by omega), nI_1, if_true, if_false, not_true_eq_false, not_false_eq_true, and_true, true_and, and_false, false_and, and_self, or_true, true_or, or_false, false_or, reduceIte, iff_self, Int32.add_zero, y_10, Classical.not_not]
theorem cAd_f (I : sm_I) (D : Nat) (x y s : Int32) {q c : Nat} (h : ¬ (q = 38 ∨ q = 39 ∨ q = 34 ∨ q = 43)) : cAd I D x y s q c = I q c := by
  unfold cAd
  rw [uI_q _ _ (by omega), uI_q _ _ (by omega), uI_q _ _ (by omega), uI_q _ _ (by omega)]
theorem mAd_f (I : sm_I) (D : Nat) (x y s : Int32) {q c : Nat} (h : ¬ (q = 108 ∨ q = 109 ∨ q = 104 ∨ (q = 103 ∧ c = 7))) : mAd I D x y s q c = I q c := by
  unfold mAd
  rw [uI_o _ _ (by omega), uI_q _ _ (by omega), uI_q _ _ (by omega), uI_q _ _ (by omega)]
theorem bdf_add (hb : bdf P D f a b) (hD : D < 12) {x y s : Nat} (hx : x < P) (hy : y < P) (hxy : x ≠ y) (hs : s ≤ 999) : bdf P (D + 1) (fv f (40 + D) s) (fv a D x) (fv b D y) := by
  refine ⟨hb.1, by omega, fun k hk => ?_, fun e he => ?_⟩
  · unfold fv
    by_cases h : k = 40 + D
    · rw [if_pos h, h, top_s (by omega)]
      exact hs
    · rw [if_neg h]
      exact hb.2.2.1 k hk
  · unfold fv
    by_cases h : e = D
    · rw [if_pos h, if_pos h]
      exact ⟨hx, hy, hxy⟩
    · rw [if_neg h, if_neg h]
      exact hb.2.2.2 e (by omega)
theorem cAd_ok {I : sm_I} (hF : cFo P D f a b I) (hT : cTa 40 f I) (hD : D < 12) (x y s : Nat) : cFo P (D + 1) (fv f (40 + D) s) (fv a D x) (fv b D y) (cAd I D (nI x) (nI y) (nI s)) ∧ cTa 40 (fv f (40 + D) s) (cAd I D (nI x) (nI y) (nI s)) := by
  obtain ⟨F1, F2, F3, F4, F5⟩ := hF
  obtain ⟨T1, T2, T3⟩ := hT
  have h0 : ∀ k, k ≠ 40 + D → fv f (40 + D) s k = f k := fun k hk => by unfold fv; rw [if_neg hk]
  refine ⟨⟨?_, ?_, ?_, fun p hp => ⟨?_, ?_, ?_⟩, fun e he => ⟨?_, ?_⟩⟩, fun p hp => ⟨?_, ?_⟩, fun e he => ?_, ?_⟩
  · unfold cAd
    rw [uI_q _ _ (by omega), uI_o _ _ (by omega), uI_q _ _ (by omega), uI_q _ _ (by omega), F1]
  · unfold cAd
    rw [uI_q _ _ (by omega), uI_s]
  · unfold cAd
    rw [uI_q _ _ (by omega), uI_o _ _ (by omega), uI_q _ _ (by omega), uI_q _ _ (by omega), F3, h0 _ (by omega)]
  · rw [cAd_f _ _ _ _ _ (by omega), (F4 p hp).1, h0 _ (by omega)]
  · rw [cAd_f _ _ _ _ _ (by omega), (F4 p hp).2.1, h0 _ (by omega)]
  · rw [cAd_f _ _ _ _ _ (by omega), (F4 p hp).2.2, h0 _ (by omega)]
  · unfold cAd
    rw [uI_q _ _ (by omega), uI_q _ _ (by omega), uI_q _ _ (by omega)]
    unfold fv
    by_cases h : e = D
    · rw [if_pos h, h, uI_s]
    · rw [if_neg h, uI_o _ _ (by omega), (F5 e (by omega)).1]
  · unfold cAd
    rw [uI_q _ _ (by omega), uI_q _ _ (by omega)]
    unfold fv
    by_cases h : e = D
    · rw [if_pos h, h, uI_s]
    · rw [if_neg h, uI_o _ _ (by omega), uI_q _ _ (by omega), (F5 e (by omega)).2]
  · rw [cAd_f _ _ _ _ _ (by omega), (T1 p hp).1, h0 _ (by omega)]
  · rw [cAd_f _ _ _ _ _ (by omega), (T1 p hp).2, h0 _ (by omega)]
  · by_cases h : e = D
    · unfold cAd
      rw [h, uI_s]
      unfold fv
      rw [if_pos rfl]
    · unfold cAd
      rw [uI_o _ _ (by omega), uI_q _ _ (by omega), uI_q _ _ (by omega), uI_q _ _ (by omega), T2 e he, h0 _ (by omega)]
  · rw [cAd_f _ _ _ _ _ (by omega), T3, h0 _ (by omega)]
theorem mAd_ok {I : sm_I} (hM : mFo P D f a b I) (hD : D < 12) (x y s : Nat) : mFo P (D + 1) (fv f (40 + D) s) (fv a D x) (fv b D y) (mAd I D (nI x) (nI y) (nI s)) := by
  obtain ⟨M1, M2, M3, M4⟩ := hM
  refine ⟨?_, uI_s _ _ _ _, fun k hk => ?_, fun e he => ⟨?_, ?_⟩⟩
  · rw [mAd_f _ _ _ _ _ (by omega), M1]
  · unfold mAd
    rw [uI_q _ _ (by omega)]
    unfold fv
    by_cases h : k = 40 + D
    · rw [if_pos h, h, uI_s]
    · rw [if_neg h, uI_o _ _ (by omega), uI_q _ _ (by omega), uI_q _ _ (by omega), M3 k hk]
  · unfold mAd
    rw [uI_q _ _ (by omega), uI_q _ _ (by omega), uI_q _ _ (by omega)]
    unfold fv
    by_cases h : e = D
    · rw [if_pos h, h, uI_s]
    · rw [if_neg h, uI_o _ _ (by omega), (M4 e (by omega)).1]
  · unfold mAd
    rw [uI_q _ _ (by omega), uI_q _ _ (by omega)]
    unfold fv
    by_cases h : e = D
    · rw [if_pos h, h, uI_s]
    · rw [if_neg h, uI_o _ _ (by omega), uI_q _ _ (by omega), (M4 e (by omega)).2]
end
/-- an invariant again where people, debts alone have changed -/
theorem Inv_2 {xs : Nat → Int32} {P P' D D' B : Nat} {I I' : sm_I} {J : sm_J} (h1 : iv_ro xs I) (h3 : iv_ch P I) (h4 : iv_ta I) (h5 : iv_la I) (h6 : iv_im P D I) (h7 : iv_tu B I) (h8 : iv_sh B I J) (hP : P ≤ P') (hD : D ≤ D') (hf : ∀ x c, ¬ ((34 ≤ x ∧ x < 44) ∨ x = 104 ∨ x = 108 ∨ x = 109 ∨ (x = 103 ∧ (c = 6 ∨ c = 7))) → I' x c = I x c) (k2 : iv_fo P' D' I') : Inv xs I' J := by
  refine Inv_26 h1 h3 h4 h5 h7 h8 hP (fr26 (fun x c hx => hf x c (by omega))) k2 (iv_im_g h6 hP hD (fun q c hq => ?_))
  refine hf q c (fun z => ?_)
  rw [rg2 z] at hq
  exact absurd hq (by decide)
theorem owe_n {P : Nat} (hP : P ≤ 8) {x y s : Int32} (h : owe P x y s) : ∃ x' y' s' : Nat, x = nI x' ∧ y = nI y' ∧ s = nI s' ∧ x' < P ∧ y' < P ∧ x' ≠ y' ∧ s' ≤ 999 := by
  obtain ⟨h1, h2, h3, h4⟩ := h
  obtain ⟨x', hx, rfl⟩ := y_idx (show P < 2 ^ 31 by omega) h1
  obtain ⟨y', hy, rfl⟩ := y_idx (show P < 2 ^ 31 by omega) h2
  obtain ⟨s', hs, rfl⟩ := nI_of2 (M := 999) (n := 999) (by decide) (Int32.not_lt.mpr h4.1) h4.2
  exact ⟨x', y', s', rfl, rfl, rfl, hx, hy, fun z => h3 (by rw [z]), hs⟩
theorem pw_debt {n : Nat} {xs : Nat → Int32} {I : sm_I} {J : sm_J} (hI : Inv xs I J) (bt s : Int32) : pw n I J 85 [.ref 26, .int bt, .int s] 160 [.ref 103, .int bt, .int s] (fun I2 J2 => Inv xs I2 J2) := by
  obtain ⟨P, D, B, i1, i2, i3, i4, i5, i6, i7, i8⟩ := id hI
  obtain ⟨f, a, b, hb, cF, cT, mF, hz⟩ := fo_pure i2
  have h8 := hb.1
  have h12 := hb.2.1
  have t10 : ¬ (10 : Int32) = 0 := by decide
  have e12 : (nI D < 12) = (D < 12) := propext (nI_ltI (b := 12) (by omega) (by decide))
  have e12' : (nI D = 12) = (D = 12) := propext (nI_eq (b := 12) (by omega) (by decide))
  intro d K hK
  by_cases h0 : bt < 0
  · simp only [z85_0, z85_1, z85_4, z85_5, z85_6, z85_8, z85_9, z85_10, z85_12, z85_13, z85_14, z85_17, z85_20, z85_21, z85_22, z85_23, z85_26, z85_29, z85_31, z85_34, z85_36, z85_37, z85_38, z85_39, z85_41, z85_42, z85_43, z85_45, z85_46, z85_47, z85_50, sm_cti, sm_ctr, sm_ctn, sm_nbi, Option.toList_some, Option.toList_none, List.cons_append, List.nil_append, ne_eq, reduceCtorEq, not_false_eq_true, Nat.reduceLeDiff, h0, if_true, if_false, not_true_eq_false, not_false_eq_true, and_true, true_and, and_false, false_and, and_self, or_true, true_or, or_false, false_or, reduceIte, iff_self, Int32.add_zero, y_10, Classical.not_not]
    refine hK (-1) I J (fun K2 h3 => ?_)
    simp only [z160_0, z160_1, z160_4, z160_5, z160_6, z160_8, z160_9, z160_10, z160_11, z160_13, z160_14, z160_15, z160_16, z160_17, z160_20, z160_23, z160_24, z160_25, z160_26, z160_29, z160_31, z160_34, z160_36, z160_37, z160_38, z160_39, z160_41, z160_42, z160_43, z160_45, z160_46, z160_47, z160_50, z160_51, z160_54, z160_55, z160_56, sm_cti, sm_ctr, sm_ctn, sm_nbi, Option.toList_some, Option.toList_none, List.cons_append, List.nil_append, ne_eq, reduceCtorEq, not_false_eq_true, Nat.reduceLeDiff, h0, if_true, if_false, not_true_eq_false, not_false_eq_true, and_true, true_and, and_false, false_and, and_self, or_true, true_or, or_false, false_or, reduceIte, iff_self, Int32.add_zero, y_10, Classical.not_not]
    exact h3 I J hI
  · by_cases ho : owe P (bt / 10) (bt - bt / 10 * 10) s
    · by_cases hD : D < 12
      · have hD' : ¬ D = 12 := by omega
        obtain ⟨x', y', s', ex, ey, es, hx, hy, hxy, hs⟩ := owe_n h8 ho
        simp only [z85_0, z85_1, z85_4, z85_5, z85_6, z85_8, z85_9, z85_10, z85_12, z85_13, z85_14, z85_17, z85_20, z85_21, z85_22, z85_23, z85_26, z85_29, z85_31, z85_34, z85_36, z85_37, z85_38, z85_39, z85_41, z85_42, z85_43, z85_45, z85_46, z85_47, z85_50, sm_cti, sm_ctr, sm_ctn, sm_nbi, Option.toList_some, Option.toList_none, List.cons_append, List.nil_append, ne_eq, reduceCtorEq, not_false_eq_true, Nat.reduceLeDiff, rc26, h0, t10, if_true, if_false, not_true_eq_false, not_false_eq_true, and_true, true_and, and_false, false_and, and_self, or_true, true_or, or_false, false_or, reduceIte, iff_self, Int32.add_zero, y_10, Classical.not_not]
        rw [c_canOwe cF.1]
        refine Or.inl ⟨ho, ?_⟩
        simp only [z85_0, z85_1, z85_4, z85_5, z85_6, z85_8, z85_9, z85_10, z85_12, z85_13, z85_14, z85_17, z85_20, z85_21, z85_22, z85_23, z85_26, z85_29, z85_31, z85_34, z85_36, z85_37, z85_38, z85_39, z85_41, z85_42, z85_43, z85_45, z85_46, z85_47, z85_50, sm_cti, sm_ctr, sm_ctn, sm_nbi, Option.toList_some, Option.toList_none, List.cons_append, List.nil_append, ne_eq, reduceCtorEq, not_false_eq_true, Nat.reduceLeDiff, kc26, kc34, rc26, rf26_2, cF.2.1, e12, hD, t10, c_addDebt hD cF.2.1, if_true, if_false, not_true_eq_false, not_false_eq_true, and_true, true_and, and_false, false_and, and_self, or_true, true_or, or_false, false_or, reduceIte, iff_self, Int32.add_zero, y_10, Classical.not_not]
        refine hK _ _ J (fun K2 h3 => ?_)
        have M0 : ∀ q c, (q = 103 ∨ q = 104 ∨ q = 108 ∨ q = 109) → cAd I D (bt / 10) (bt - bt / 10 * 10) s q c = I q c := fun q c hq => cAd_f _ _ _ _ _ (by omega)
        have mF1 : mFo P D f a b (cAd I D (bt / 10) (bt - bt / 10 * 10) s) := mFo_f mF (fun x c hx => M0 x c (by omega))
        simp only [z160_0, z160_1, z160_4, z160_5, z160_6, z160_8, z160_9, z160_10, z160_11, z160_13, z160_14, z160_15, z160_16, z160_17, z160_20, z160_23, z160_24, z160_25, z160_26, z160_29, z160_31, z160_34, z160_36, z160_37, z160_38, z160_39, z160_41, z160_42, z160_43, z160_45, z160_46, z160_47, z160_50, z160_51, z160_54, z160_55, z160_56, sm_cti, sm_ctr, sm_ctn, sm_nbi, Option.toList_some, Option.toList_none, List.cons_append, List.nil_append, ne_eq, reduceCtorEq, not_false_eq_true, Nat.reduceLeDiff, rc103, h0, t10, if_true, if_false, not_true_eq_false, not_false_eq_true, and_true, true_and, and_false, false_and, and_self, or_true, true_or, or_false, false_or, reduceIte, iff_self, Int32.add_zero, y_10, Classical.not_not]
        refine (m_mayCome (show P < 2 ^ 31 by omega) mF1.1 (d + 197) n J _ (bt / 10) (bt - bt / 10 * 10) s).mpr (Or.inl ⟨ho, ?_⟩)
        have e7 : mAd (cAd I D (bt / 10) (bt - bt / 10 * 10) s) D (bt / 10) (bt - bt / 10 * 10) s 103 7 = nI (D + 1) := uI_s _ _ _ _
        simp only [z160_0, z160_1, z160_4, z160_5, z160_6, z160_8, z160_9, z160_10, z160_11, z160_13, z160_14, z160_15, z160_16, z160_17, z160_20, z160_23, z160_24, z160_25, z160_26, z160_29, z160_31, z160_34, z160_36, z160_37, z160_38, z160_39, z160_41, z160_42, z160_43, z160_45, z160_46, z160_47, z160_50, z160_51, z160_54, z160_55, z160_56, sm_cti, sm_ctr, sm_ctn, sm_nbi, Option.toList_some, Option.toList_none, List.cons_append, List.nil_append, ne_eq, reduceCtorEq, not_false_eq_true, Nat.reduceLeDiff, kc103, rc103, mF1.2.1, e12', hD', t10, m_adds hD mF1.2.1, e7, nI_pred, if_true, if_false, not_true_eq_false, not_false_eq_true, and_true, true_and, and_false, false_and, and_self, or_true, true_or, or_false, false_or, reduceIte, iff_self, Int32.add_zero, y_10, Classical.not_not]
        refine h3 _ J ?_
        rw [ey, ex, es]
        rw [ey, ex, es] at mF1
        obtain ⟨c1, c2⟩ := cAd_ok cF cT hD x' y' s'
        have m1 := mAd_ok mF1 hD x' y' s'
        refine Inv_2 (P' := P) (D' := D + 1) i1 i3 i4 i5 i6 i7 i8 (Nat.le_refl _) (by omega) (fun x c hx => by rw [mAd_f _ _ _ _ _ (by omega), cAd_f _ _ _ _ _ (by omega)]) (fo_back (bdf_add hb hD hx hy hxy hs) (cFo_f c1 (fun x c h1 h2 => mAd_f _ _ _ _ _ (by omega))) (cTa_f c2 (fun x c h1 h2 => mAd_f _ _ _ _ _ (by omega))) m1 (fun p p1 p2 => ?_))
        unfold fv
        rw [if_neg (by omega)]
        exact hz p p1 p2
      · have hD' : D = 12 := by omega
        simp only [z85_0, z85_1, z85_4, z85_5, z85_6, z85_8, z85_9, z85_10, z85_12, z85_13, z85_14, z85_17, z85_20, z85_21, z85_22, z85_23, z85_26, z85_29, z85_31, z85_34, z85_36, z85_37, z85_38, z85_39, z85_41, z85_42, z85_43, z85_45, z85_46, z85_47, z85_50, sm_cti, sm_ctr, sm_ctn, sm_nbi, Option.toList_some, Option.toList_none, List.cons_append, List.nil_append, ne_eq, reduceCtorEq, not_false_eq_true, Nat.reduceLeDiff, rc26, h0, t10, if_true, if_false, not_true_eq_false, not_false_eq_true, and_true, true_and, and_false, false_and, and_self, or_true, true_or, or_false, false_or, reduceIte, iff_self, Int32.add_zero, y_10, Classical.not_not]
        rw [c_canOwe cF.1]
        refine Or.inl ⟨ho, ?_⟩
        simp only [z85_0, z85_1, z85_4, z85_5, z85_6, z85_8, z85_9, z85_10, z85_12, z85_13, z85_14, z85_17, z85_20, z85_21, z85_22, z85_23, z85_26, z85_29, z85_31, z85_34, z85_36, z85_37, z85_38, z85_39, z85_41, z85_42, z85_43, z85_45, z85_46, z85_47, z85_50, sm_cti, sm_ctr, sm_ctn, sm_nbi, Option.toList_some, Option.toList_none, List.cons_append, List.nil_append, ne_eq, reduceCtorEq, not_false_eq_true, Nat.reduceLeDiff, kc26, kc34, rf26_2, cF.2.1, e12, hD, if_true, if_false, not_true_eq_false, not_false_eq_true, and_true, true_and, and_false, false_and, and_self, or_true, true_or, or_false, false_or, reduceIte, iff_self, Int32.add_zero, y_10, Classical.not_not]
        refine hK (-3) I J (fun K2 h3 => ?_)
        simp only [z160_0, z160_1, z160_4, z160_5, z160_6, z160_8, z160_9, z160_10, z160_11, z160_13, z160_14, z160_15, z160_16, z160_17, z160_20, z160_23, z160_24, z160_25, z160_26, z160_29, z160_31, z160_34, z160_36, z160_37, z160_38, z160_39, z160_41, z160_42, z160_43, z160_45, z160_46, z160_47, z160_50, z160_51, z160_54, z160_55, z160_56, sm_cti, sm_ctr, sm_ctn, sm_nbi, Option.toList_some, Option.toList_none, List.cons_append, List.nil_append, ne_eq, reduceCtorEq, not_false_eq_true, Nat.reduceLeDiff, rc103, h0, t10, if_true, if_false, not_true_eq_false, not_false_eq_true, and_true, true_and, and_false, false_and, and_self, or_true, true_or, or_false, false_or, reduceIte, iff_self, Int32.add_zero, y_10, Classical.not_not]
        exact (m_mayCome (show P < 2 ^ 31 by omega) mF.1 (d + 197) n J _ (bt / 10) (bt - bt / 10 * 10) s).mpr (Or.inl ⟨ho, by
          simp only [z160_0, z160_1, z160_4, z160_5, z160_6, z160_8, z160_9, z160_10, z160_11, z160_13, z160_14, z160_15, z160_16, z160_17, z160_20, z160_23, z160_24, z160_25, z160_26, z160_29, z160_31, z160_34, z160_36, z160_37, z160_38, z160_39, z160_41, z160_42, z160_43, z160_45, z160_46, z160_47, z160_50, z160_51, z160_54, z160_55, z160_56, sm_cti, sm_ctr, sm_ctn, sm_nbi, Option.toList_some, Option.toList_none, List.cons_append, List.nil_append, ne_eq, reduceCtorEq, not_false_eq_true, Nat.reduceLeDiff, kc103, mF.2.1, e12', hD', show nI 12 = 12 from rfl, if_true, if_false, not_true_eq_false, not_false_eq_true, and_true, true_and, and_false, false_and, and_self, or_true, true_or, or_false, false_or, reduceIte, iff_self, Int32.add_zero, y_10, Classical.not_not]
          exact h3 I J hI⟩)
    · simp only [z85_0, z85_1, z85_4, z85_5, z85_6, z85_8, z85_9, z85_10, z85_12, z85_13, z85_14, z85_17, z85_20, z85_21, z85_22, z85_23, z85_26, z85_29, z85_31, z85_34, z85_36, z85_37, z85_38, z85_39, z85_41, z85_42, z85_43, z85_45, z85_46, z85_47, z85_50, sm_cti, sm_ctr, sm_ctn, sm_nbi, Option.toList_some, Option.toList_none, List.cons_append, List.nil_append, ne_eq, reduceCtorEq, not_false_eq_true, Nat.reduceLeDiff, rc26, h0, t10, if_true, if_false, not_true_eq_false, not_false_eq_true, and_true, true_and, and_false, false_and, and_self, or_true, true_or, or_false, false_or, reduceIte, iff_self, Int32.add_zero, y_10, Classical.not_not]
      rw [c_canOwe cF.1]
      refine Or.inr ⟨ho, ?_⟩
      simp only [z85_0, z85_1, z85_4, z85_5, z85_6, z85_8, z85_9, z85_10, z85_12, z85_13, z85_14, z85_17, z85_20, z85_21, z85_22, z85_23, z85_26, z85_29, z85_31, z85_34, z85_36, z85_37, z85_38, z85_39, z85_41, z85_42, z85_43, z85_45, z85_46, z85_47, z85_50, sm_cti, sm_ctr, sm_ctn, sm_nbi, Option.toList_some, Option.toList_none, List.cons_append, List.nil_append, ne_eq, reduceCtorEq, not_false_eq_true, Nat.reduceLeDiff, if_true, if_false, not_true_eq_false, not_false_eq_true, and_true, true_and, and_false, false_and, and_self, or_true, true_or, or_false, false_or, reduceIte, iff_self, Int32.add_zero, y_10, Classical.not_not]
      refine hK (-1) I J (fun K2 h3 => ?_)
      simp only [z160_0, z160_1, z160_4, z160_5, z160_6, z160_8, z160_9, z160_10, z160_11, z160_13, z160_14, z160_15, z160_16, z160_17, z160_20, z160_23, z160_24, z160_25, z160_26, z160_29, z160_31, z160_34, z160_36, z160_37, z160_38, z160_39, z160_41, z160_42, z160_43, z160_45, z160_46, z160_47, z160_50, z160_51, z160_54, z160_55, z160_56, sm_cti, sm_ctr, sm_ctn, sm_nbi, Option.toList_some, Option.toList_none, List.cons_append, List.nil_append, ne_eq, reduceCtorEq, not_false_eq_true, Nat.reduceLeDiff, rc103, h0, t10, if_true, if_false, not_true_eq_false, not_false_eq_true, and_true, true_and, and_false, false_and, and_self, or_true, true_or, or_false, false_or, reduceIte, iff_self, Int32.add_zero, y_10, Classical.not_not]
      exact (m_mayCome (show P < 2 ^ 31 by omega) mF.1 (d + 197) n J _ (bt / 10) (bt - bt / 10 * 10) s).mpr (Or.inr ⟨ho, by
        simp only [z160_0, z160_1, z160_4, z160_5, z160_6, z160_8, z160_9, z160_10, z160_11, z160_13, z160_14, z160_15, z160_16, z160_17, z160_20, z160_23, z160_24, z160_25, z160_26, z160_29, z160_31, z160_34, z160_36, z160_37, z160_38, z160_39, z160_41, z160_42, z160_43, z160_45, z160_46, z160_47, z160_50, z160_51, z160_54, z160_55, z160_56, sm_cti, sm_ctr, sm_ctn, sm_nbi, Option.toList_some, Option.toList_none, List.cons_append, List.nil_append, ne_eq, reduceCtorEq, not_false_eq_true, Nat.reduceLeDiff, if_true, if_false, not_true_eq_false, not_false_eq_true, and_true, true_and, and_false, false_and, and_self, or_true, true_or, or_false, false_or, reduceIte, iff_self, Int32.add_zero, y_10, Classical.not_not]
        exact h3 I J hI⟩)
