/-! both answer alike: mend, undo, redo -/
theorem ro_top0 : ∀ k : Fin 54, (sm_rows.getD 0 []).getD (kw k.1) 0 = nI (top k.1) ∧ kw k.1 < 8 := by decide +kernel
theorem ro_top {xs : Nat → Int32} {I : sm_I} (h : iv_ro xs I) {k : Nat} (hk : k < 54) : I 1 (kw k) = nI (top k) := by
  rw [h _ _ (by omega)]
  unfold sm_roI
  rw [if_neg (by omega), if_pos (by omega)]
  exact (ro_top0 ⟨k, hk⟩).1
theorem cI_o (I : sm_I) {s t a b n x : Nat} (c : Nat) (h : ¬ x = t) : sm_cI I s t a b n x c = I x c := by
  unfold sm_cI
  rw [if_neg h]
theorem cI_1 (I : sm_I) (s t n c : Nat) (h : c < n) : sm_cI I s t 1 0 n t c = I s (c + 1) := by
  unfold sm_cI va_cpy
  rw [if_pos rfl, if_pos ⟨Nat.zero_le _, by omega⟩, Nat.sub_zero, Nat.add_comm]
theorem c_forget {I : sm_I} (d n : Nat) (J : sm_J) (K : Option Value → sm_H → Prop)
    (hK : ∀ I', (∀ q b, ¬ (54 ≤ q ∧ q < 59) → I' q b = I q b) → I' 54 4 = 39 → (∀ q j, 55 ≤ q → q < 59 → j < 39 → I' q j = I q (j + 1)) → K none (sm_SH n, I', J)) :
    sm_Ok d 2 0 [.ref 54] [] (sm_SH n, I, J) K := by
  have c0 : (0 : Int32).toNatClampNeg = 0 := by decide
  have c1 : (1 : Int32).toNatClampNeg = 1 := by decide
  have c39 : (39 : Int32).toNatClampNeg = 39 := by decide
  have z0 : ¬ (0 : Int32) < 0 := by decide
  have z1 : ¬ (1 : Int32) < 0 := by decide
  have z39 : ¬ (39 : Int32) < 0 := by decide
  have l1 : (1 + 39 ≤ 40) = True := by decide
  have l0 : (0 + 39 ≤ 40) = True := by decide
  have g5 : (26 ≤ 55) = True := by decide
  have g6 : (26 ≤ 56) = True := by decide
  have g7 : (26 ≤ 57) = True := by decide
  have g8 : (26 ≤ 58) = True := by decide
  have u5 : ∀ (A : sm_I), sm_cI A 55 55 1 0 39 54 4 = A 54 4 := fun A => cI_o A 4 (by decide)
  have u6 : ∀ (A : sm_I), sm_cI A 56 56 1 0 39 54 4 = A 54 4 := fun A => cI_o A 4 (by decide)
  have u7 : ∀ (A : sm_I), sm_cI A 57 57 1 0 39 54 4 = A 54 4 := fun A => cI_o A 4 (by decide)
  have us : ∀ v, sm_uI I 54 4 v 54 4 = v := fun v => uI_s _ _ _ _
  simp only [z2_0, z2_1, z2_3, z2_6, z2_7, z2_10, z2_11, z2_12, z2_15, z2_16, z2_17, z2_20, z2_23, z2_24, z2_27, z2_28, z2_29, z2_32, z2_33, z2_34, z2_37, z2_40, z2_41, z2_44, z2_45, z2_46, z2_49, z2_50, z2_51, z2_54, z2_57, z2_58, z2_61, z2_62, z2_63, z2_66, z2_67, z2_68, z2_71, z2_74, sm_cti, sm_ctr, sm_ctn, sm_nbi, Option.toList_some, Option.toList_none, List.cons_append, List.nil_append, ne_eq, reduceCtorEq, not_false_eq_true, Nat.reduceLeDiff, kc54, kc55, kc56, kc57, kc58, rf54_0, rf54_1, rf54_2, rf54_3, us, u5, u6, u7, c0, c1, c39, z0, z1, z39, l0, l1, g5, g6, g7, g8, if_true, if_false, not_true_eq_false, not_false_eq_true, and_true, true_and, and_false, false_and, and_self, or_true, true_or, or_false, false_or, reduceIte, iff_self, Int32.add_zero, y_10, Classical.not_not]
  refine hK _ (fun q b hq => ?_) ?_ (fun q j h1 h2 hj => ?_)
  · rw [cI_o _ _ (by omega), cI_o _ _ (by omega), cI_o _ _ (by omega), cI_o _ _ (by omega), uI_q _ _ (by omega)]
  · rw [cI_o _ _ (by omega), cI_o _ _ (by omega), cI_o _ _ (by omega), cI_o _ _ (by omega), us]
  · rcases (show q = 55 ∨ q = 56 ∨ q = 57 ∨ q = 58 by omega) with rfl | rfl | rfl | rfl
    · rw [cI_o _ _ (by omega), cI_o _ _ (by omega), cI_o _ _ (by omega), cI_1 _ _ _ _ _ hj, uI_q _ _ (by omega)]
    · rw [cI_o _ _ (by omega), cI_o _ _ (by omega), cI_1 _ _ _ _ _ hj, cI_o _ _ (by omega), uI_q _ _ (by omega)]
    · rw [cI_o _ _ (by omega), cI_1 _ _ _ _ _ hj, cI_o _ _ (by omega), cI_o _ _ (by omega), uI_q _ _ (by omega)]
    · rw [cI_1 _ _ _ _ _ hj, cI_o _ _ (by omega), cI_o _ _ (by omega), cI_o _ _ (by omega), uI_q _ _ (by omega)]
theorem c_add_tl {I : sm_I} {c : Nat} (hc : c < 40) (h4 : I 54 4 = nI c) (x y u v : Int32) (d n : Nat) (J : sm_J) (K : Option Value → sm_H → Prop)
    (hK : ∀ I', (∀ q b, ¬ ((55 ≤ q ∧ q < 59 ∧ b = c) ∨ (q = 54 ∧ (b = 4 ∨ b = 5))) → I' q b = I q b) → I' 54 4 = nI (c + 1) → I' 54 5 = nI (c + 1) → I' 55 c = x → I' 56 c = y → I' 57 c = u → I' 58 c = v → K none (sm_SH n, I', J)) :
    sm_Ok d 1 13 [.ref 54, .int x, .int y, .int u, .int v] [] (sm_SH n, I, J) K := by
  have u1 : ∀ (A : sm_I) w, sm_uI A 55 c w 54 4 = A 54 4 := fun A w => uI_q _ _ (by decide)
  have u2 : ∀ (A : sm_I) w, sm_uI A 56 c w 54 4 = A 54 4 := fun A w => uI_q _ _ (by decide)
  have u3 : ∀ (A : sm_I) w, sm_uI A 57 c w 54 4 = A 54 4 := fun A w => uI_q _ _ (by decide)
  have u4 : ∀ (A : sm_I) w, sm_uI A 58 c w 54 4 = A 54 4 := fun A w => uI_q _ _ (by decide)
  have us : ∀ (A : sm_I) w, sm_uI A 54 4 w 54 4 = w := fun A w => uI_s _ _ _ _
  simp only [z1_1, z1_4, z1_6, z1_9, z1_10, z1_13, z1_14, z1_17, z1_18, z1_21, z1_22, z1_23, z1_24, z1_27, z1_28, z1_31, z1_32, z1_33, z1_34, z1_37, z1_38, z1_41, z1_42, z1_43, z1_44, z1_47, z1_48, z1_51, z1_53, z1_54, z1_55, z1_56, z1_59, z1_60, z1_61, z1_64, z1_65, z1_66, z1_69, z1_72, sm_cti, sm_ctr, sm_ctn, sm_nbi, Option.toList_some, Option.toList_none, List.cons_append, List.nil_append, ne_eq, reduceCtorEq, not_false_eq_true, Nat.reduceLeDiff, kc54, kc55, kc56, kc57, kc58, rf54_0, rf54_1, rf54_2, rf54_3, us, u1, u2, u3, u4, h4, nI_1, y_inN hc (by decide), nI_clamp (show c < 2 ^ 31 by omega), if_true, if_false, not_true_eq_false, not_false_eq_true, and_true, true_and, and_false, false_and, and_self, or_true, true_or, or_false, false_or, reduceIte, iff_self, Int32.add_zero, y_10, Classical.not_not]
  refine hK _ (fun q b hq => ?_) ?_ ?_ ?_ ?_ ?_ ?_
  · rw [uI_o _ _ (by omega), uI_o _ _ (by omega), uI_o _ _ (by omega), uI_o _ _ (by omega), uI_o _ _ (by omega), uI_o _ _ (by omega)]
  · rw [uI_o _ _ (by omega), uI_s]
  · rw [uI_s]
  · rw [uI_q _ _ (by omega), uI_q _ _ (by omega), uI_q _ _ (by omega), uI_q _ _ (by omega), uI_q _ _ (by omega), uI_s]
  · rw [uI_q _ _ (by omega), uI_q _ _ (by omega), uI_q _ _ (by omega), uI_q _ _ (by omega), uI_s]
  · rw [uI_q _ _ (by omega), uI_q _ _ (by omega), uI_q _ _ (by omega), uI_s]
  · rw [uI_q _ _ (by omega), uI_q _ _ (by omega), uI_s]
theorem c_add {I : sm_I} {c s : Nat} (hs : (c < 40 ∧ s = 0) ∨ (c = 40 ∧ s = 1)) (h4 : I 54 4 = nI c) (x y u v : Int32) (d n : Nat) (J : sm_J) (K : Option Value → sm_H → Prop)
    (hK : ∀ I', (∀ q b, ¬ (54 ≤ q ∧ q < 59) → I' q b = I q b) → I' 54 4 = nI (c - s + 1) → I' 54 5 = nI (c - s + 1) → (∀ q j, 55 ≤ q → q < 59 → j < c - s → I' q j = I q (j + s)) → I' 55 (c - s) = x → I' 56 (c - s) = y → I' 57 (c - s) = u → I' 58 (c - s) = v → K none (sm_SH n, I', J)) :
    sm_Ok (d + 1) 1 0 [.ref 54, .int x, .int y, .int u, .int v] [] (sm_SH n, I, J) K := by
  rcases hs with ⟨hc, rfl⟩ | ⟨rfl, rfl⟩
  · have h1 : nI c < 40 := nI_lt (b := 40) hc (by decide)
    rw [z1_0]
    simp only [z1_1, z1_4, z1_6, sm_cti, sm_ctr, sm_ctn, sm_nbi, Option.toList_some, Option.toList_none, List.cons_append, List.nil_append, ne_eq, reduceCtorEq, not_false_eq_true, Nat.reduceLeDiff, kc54, h4, h1, if_true, if_false, not_true_eq_false, not_false_eq_true, and_true, true_and, and_false, false_and, and_self, or_true, true_or, or_false, false_or, reduceIte, iff_self, Int32.add_zero, y_10, Classical.not_not]
    refine c_add_tl hc h4 x y u v _ n J K (fun I' f1 f2 f3 f4 f5 f6 f7 => ?_)
    rw [Nat.sub_zero] at hK
    exact hK I' (fun q b hq => f1 q b (by omega)) f2 f3 (fun q j h1 h2 hj => f1 q j (by omega)) f4 f5 f6 f7
  · have h1 : ¬ nI 40 < 40 := by decide
    rw [z1_0]
    simp only [z1_1, z1_4, z1_6, z1_9, z1_10, sm_cti, sm_ctr, sm_ctn, sm_nbi, Option.toList_some, Option.toList_none, List.cons_append, List.nil_append, ne_eq, reduceCtorEq, not_false_eq_true, Nat.reduceLeDiff, kc54, rc54, h4, h1, if_true, if_false, not_true_eq_false, not_false_eq_true, and_true, true_and, and_false, false_and, and_self, or_true, true_or, or_false, false_or, reduceIte, iff_self, Int32.add_zero, y_10, Classical.not_not]
    refine c_forget d n J _ (fun I1 w1 w2 w3 => ?_)
    simp only [sm_cti, sm_ctr, sm_ctn, sm_nbi, Option.toList_some, Option.toList_none, List.cons_append, List.nil_append, ne_eq, reduceCtorEq, not_false_eq_true, Nat.reduceLeDiff]
    refine c_add_tl (c := 39) (by decide) w2 x y u v _ n J K (fun I' f1 f2 f3 f4 f5 f6 f7 => ?_)
    exact hK I' (fun q b hq => by rw [f1 q b (by omega), w1 q b hq]) f2 f3 (fun q j h1 h2 hj => by rw [f1 q j (by omega), w3 q j h1 h2 (by omega)]) f4 f5 f6 f7
theorem m_bec_tl {I : sm_I} {c k w V : Nat} (hc : c < 40) (hk : k < 54) (h5 : I 103 5 = nI c) (x4 : Value) (d n : Nat) (J : sm_J) (K : Option Value → sm_H → Prop)
    (hK : ∀ I', (∀ q b, ¬ ((105 ≤ q ∧ q < 108 ∧ b = c) ∨ (q = 104 ∧ b = k) ∨ (q = 103 ∧ (b = 4 ∨ b = 5))) → I' q b = I q b) → I' 103 5 = nI (c + 1) → I' 103 4 = nI (c + 1) → I' 104 k = nI V → I' 105 c = nI k → I' 106 c = nI w → I' 107 c = nI V → K (some (.int (nI w))) (sm_SH n, I', J)) :
    sm_Ok d 152 97 [.ref 103, .int (nI k), .int (nI V), .int (nI w), x4] [] (sm_SH n, I, J) K := by
  have u1 : ∀ (A : sm_I) w, sm_uI A 105 c w 103 5 = A 103 5 := fun A w => uI_q _ _ (by decide)
  have u2 : ∀ (A : sm_I) w, sm_uI A 106 c w 103 5 = A 103 5 := fun A w => uI_q _ _ (by decide)
  have u3 : ∀ (A : sm_I) w, sm_uI A 107 c w 103 5 = A 103 5 := fun A w => uI_q _ _ (by decide)
  have us : ∀ (A : sm_I) w, sm_uI A 103 5 w 103 5 = w := fun A w => uI_s _ _ _ _
  simp only [z152_1, z152_4, z152_5, z152_6, z152_7, z152_8, z152_9, z152_12, z152_13, z152_14, z152_15, z152_18, z152_20, z152_23, z152_24, z152_28, z152_30, z152_33, z152_34, z152_37, z152_39, z152_40, z152_41, z152_42, z152_45, z152_47, z152_48, z152_49, z152_50, z152_53, z152_55, z152_56, z152_57, z152_58, z152_61, z152_63, z152_64, z152_65, z152_66, z152_69, z152_71, z152_72, z152_73, z152_74, z152_77, z152_79, z152_80, z152_81, z152_84, z152_87, z152_88, z152_89, z152_92, z152_93, z152_94, z152_97, z152_98, z152_101, z152_102, z152_105, z152_106, z152_107, z152_108, z152_111, z152_112, z152_115, z152_116, z152_117, z152_118, z152_121, z152_122, z152_125, z152_126, z152_127, z152_128, z152_129, z152_132, z152_133, z152_134, z152_137, z152_138, z152_139, z152_142, z152_145, z152_146, z152_149, z152_150, z152_151, z152_152, z152_153, sm_cti, sm_ctr, sm_ctn, sm_nbi, Option.toList_some, Option.toList_none, List.cons_append, List.nil_append, ne_eq, reduceCtorEq, not_false_eq_true, Nat.reduceLeDiff, kc103, kc104, kc105, kc106, kc107, rf103_0, rf103_1, rf103_2, rf103_3, us, u1, u2, u3, h5, nI_1, y_inN hc (by decide), nI_clamp (show c < 2 ^ 31 by omega), y_inN hk (by decide), nI_clamp (show k < 2 ^ 31 by omega), if_true, if_false, not_true_eq_false, not_false_eq_true, and_true, true_and, and_false, false_and, and_self, or_true, true_or, or_false, false_or, reduceIte, iff_self, Int32.add_zero, y_10, Classical.not_not]
  refine hK _ (fun q b hq => ?_) ?_ ?_ ?_ ?_ ?_ ?_
  · rw [uI_o _ _ (by omega), uI_o _ _ (by omega), uI_o _ _ (by omega), uI_o _ _ (by omega), uI_o _ _ (by omega), uI_o _ _ (by omega)]
  · rw [uI_o _ _ (by omega), uI_o _ _ (by omega), uI_s]
  · rw [uI_o _ _ (by omega), uI_s]
  · rw [uI_s]
  · rw [uI_q _ _ (by omega), uI_q _ _ (by omega), uI_q _ _ (by omega), uI_q _ _ (by omega), uI_q _ _ (by omega), uI_s]
  · rw [uI_q _ _ (by omega), uI_q _ _ (by omega), uI_q _ _ (by omega), uI_q _ _ (by omega), uI_s]
  · rw [uI_q _ _ (by omega), uI_q _ _ (by omega), uI_q _ _ (by omega), uI_s]
theorem m_bec_lp {I : sm_I} (x1 x2 x3 : Int32) (d n : Nat) (J : sm_J) (K : Option Value → sm_H → Prop) : ∀ (w m : Nat), m + 1 + w = 40 → ∀ I1 : sm_I, (∀ q b, ¬ (105 ≤ q ∧ q < 108) → I1 q b = I q b) → (∀ q j, 105 ≤ q → q < 108 → (j < m → I1 q j = I q (j + 1)) ∧ (m ≤ j → I1 q j = I q j)) →
    (∀ I', (∀ q b, ¬ (105 ≤ q ∧ q < 108) → I' q b = I q b) → (∀ q j, 105 ≤ q → q < 108 → j < 39 → I' q j = I q (j + 1)) → sm_Ok d 152 87 [.ref 103, .int x1, .int x2, .int x3, .int (nI 40)] [] (sm_SH n, I', J) K) →
    sm_Ok d 152 26 [.ref 103, .int x1, .int x2, .int x3, .int (nI (m + 1))] [] (sm_SH n, I1, J) K
  | 0, m, h, I1, f1, f2, hK => by
    have hm : m = 39 := by omega
    subst hm
    have e : (40 : Int32) ≤ nI (39 + 1) := by decide
    rw [z152_26]
    simp only [z152_28, z152_30, sm_cti, sm_ctr, sm_ctn, sm_nbi, Option.toList_some, Option.toList_none, List.cons_append, List.nil_append, ne_eq, reduceCtorEq, not_false_eq_true, Nat.reduceLeDiff, e, if_true, if_false, not_true_eq_false, not_false_eq_true, and_true, true_and, and_false, false_and, and_self, or_true, true_or, or_false, false_or, reduceIte, iff_self, Int32.add_zero, y_10, Classical.not_not]
    exact hK I1 f1 (fun q j h1 h2 hj => (f2 q j h1 h2).1 hj)
  | w + 1, m, h, I1, f1, f2, hK => by
    have e : ¬ (40 : Int32) ≤ nI (m + 1) := nI_ge (b := 40) (by omega) (by decide)
    have u1 : ∀ (A : sm_I) w c, sm_uI A 105 m w 106 c = A 106 c := fun A w c => uI_q _ _ (by decide)
    have u2 : ∀ (A : sm_I) w c, sm_uI A 105 m w 107 c = A 107 c := fun A w c => uI_q _ _ (by decide)
    have u3 : ∀ (A : sm_I) w c, sm_uI A 106 m w 107 c = A 107 c := fun A w c => uI_q _ _ (by decide)
    rw [z152_26]
    simp only [z152_1, z152_4, z152_5, z152_6, z152_7, z152_8, z152_9, z152_12, z152_13, z152_14, z152_15, z152_18, z152_20, z152_23, z152_24, z152_28, z152_30, z152_33, z152_34, z152_37, z152_39, z152_40, z152_41, z152_42, z152_45, z152_47, z152_48, z152_49, z152_50, z152_53, z152_55, z152_56, z152_57, z152_58, z152_61, z152_63, z152_64, z152_65, z152_66, z152_69, z152_71, z152_72, z152_73, z152_74, z152_77, z152_79, z152_80, z152_81, z152_84, z152_87, z152_88, z152_89, z152_92, z152_93, z152_94, z152_97, z152_98, z152_101, z152_102, z152_105, z152_106, z152_107, z152_108, z152_111, z152_112, z152_115, z152_116, z152_117, z152_118, z152_121, z152_122, z152_125, z152_126, z152_127, z152_128, z152_129, z152_132, z152_133, z152_134, z152_137, z152_138, z152_139, z152_142, z152_145, z152_146, z152_149, z152_150, z152_151, z152_152, z152_153, sm_cti, sm_ctr, sm_ctn, sm_nbi, Option.toList_some, Option.toList_none, List.cons_append, List.nil_append, ne_eq, reduceCtorEq, not_false_eq_true, Nat.reduceLeDiff, kc103, kc105, kc106, kc107, rf103_1, rf103_2, rf103_3, u1, u2, u3, e, nI_pred, y_inN (show m < 40 by omega) (by decide), nI_clamp (show m < 2 ^ 31 by omega), y_inN (show m + 1 < 40 by omega) (by decide), nI_clamp (show m + 1 < 2 ^ 31 by omega), nI_1, if_true, if_false, not_true_eq_false, not_false_eq_true, and_true, true_and, and_false, false_and, and_self, or_true, true_or, or_false, false_or, reduceIte, iff_self, Int32.add_zero, y_10, Classical.not_not]
    refine m_bec_lp x1 x2 x3 d n J K w (m + 1) (by omega) _ (fun q b hq => ?_) (fun q j h1 h2 => ?_) hK
    · rw [uI_q _ _ (by omega), uI_q _ _ (by omega), uI_q _ _ (by omega), f1 q b hq]
    · rcases (show q = 105 ∨ q = 106 ∨ q = 107 by omega) with rfl | rfl | rfl
      · rw [uI_q _ _ (by decide), uI_q _ _ (by decide)]
        by_cases hj : j = m
        · subst hj
          rw [uI_s]
          exact ⟨fun _ => (f2 105 (j + 1) (by omega) (by omega)).2 (by omega), fun z => absurd z (by omega)⟩
        · rw [uI_o _ _ (by omega)]
          exact ⟨fun z => (f2 105 j (by omega) (by omega)).1 (by omega), fun z => (f2 105 j (by omega) (by omega)).2 (by omega)⟩
      · rw [uI_q _ _ (by decide)]
        by_cases hj : j = m
        · subst hj
          rw [uI_s]
          exact ⟨fun _ => (f2 106 (j + 1) (by omega) (by omega)).2 (by omega), fun z => absurd z (by omega)⟩
        · rw [uI_o _ _ (by omega), uI_q _ _ (by decide)]
          exact ⟨fun z => (f2 106 j (by omega) (by omega)).1 (by omega), fun z => (f2 106 j (by omega) (by omega)).2 (by omega)⟩
      · by_cases hj : j = m
        · subst hj
          rw [uI_s]
          exact ⟨fun _ => (f2 107 (j + 1) (by omega) (by omega)).2 (by omega), fun z => absurd z (by omega)⟩
        · rw [uI_o _ _ (by omega), uI_q _ _ (by decide), uI_q _ _ (by decide)]
          exact ⟨fun z => (f2 107 j (by omega) (by omega)).1 (by omega), fun z => (f2 107 j (by omega) (by omega)).2 (by omega)⟩
theorem m_becomes {I : sm_I} {c s k w V : Nat} (hs : (c < 40 ∧ s = 0) ∨ (c = 40 ∧ s = 1)) (hk : k < 54) (hw : ¬ nI w = nI V) (h5 : I 103 5 = nI c) (h1 : I 104 k = nI w) (d n : Nat) (J : sm_J) (K : Option Value → sm_H → Prop)
    (hK : ∀ I', (∀ q b, ¬ ((105 ≤ q ∧ q < 108) ∨ (q = 104 ∧ b = k) ∨ (q = 103 ∧ (b = 4 ∨ b = 5))) → I' q b = I q b) → I' 103 5 = nI (c - s + 1) → I' 103 4 = nI (c - s + 1) → I' 104 k = nI V → (∀ q j, 105 ≤ q → q < 108 → j < c - s → I' q j = I q (j + s)) → I' 105 (c - s) = nI k → I' 106 (c - s) = nI w → I' 107 (c - s) = nI V → K (some (.int (nI w))) (sm_SH n, I', J)) :
    sm_Ok d 152 0 [.ref 103, .int (nI k), .int (nI V), .null, .null] [] (sm_SH n, I, J) K := by
  rcases hs with ⟨hc, rfl⟩ | ⟨rfl, rfl⟩
  · have e : ¬ nI c = 40 := fun z => by have := (nI_eq (a := c) (b := 40) (by omega) (by decide)).mp z; omega
    rw [z152_0]
    simp only [z152_1, z152_4, z152_5, z152_6, z152_7, z152_8, z152_9, z152_14, z152_15, z152_18, z152_20, sm_cti, sm_ctr, sm_ctn, sm_nbi, Option.toList_some, Option.toList_none, List.cons_append, List.nil_append, ne_eq, reduceCtorEq, not_false_eq_true, Nat.reduceLeDiff, kc103, kc104, rf103_0, h1, h5, hw, e, y_inN hk (by decide), nI_clamp (show k < 2 ^ 31 by omega), if_true, if_false, not_true_eq_false, not_false_eq_true, and_true, true_and, and_false, false_and, and_self, or_true, true_or, or_false, false_or, reduceIte, iff_self, Int32.add_zero, y_10, Classical.not_not]
    rw [Nat.sub_zero] at hK
    exact m_bec_tl hc hk h5 _ d n J K (fun I' f1 f2 f3 f4 f5 f6 f7 => hK I' (fun q b hq => f1 q b (by omega)) f2 f3 f4 (fun q j h1 h2 hj => f1 q j (by omega)) f5 f6 f7)
  · have e : nI 40 = 40 := rfl
    rw [z152_0]
    simp only [z152_1, z152_4, z152_5, z152_6, z152_7, z152_8, z152_9, z152_14, z152_15, z152_18, z152_20, z152_23, z152_24, sm_cti, sm_ctr, sm_ctn, sm_nbi, Option.toList_some, Option.toList_none, List.cons_append, List.nil_append, ne_eq, reduceCtorEq, not_false_eq_true, Nat.reduceLeDiff, kc103, kc104, rf103_0, h1, h5, hw, e, y_inN hk (by decide), nI_clamp (show k < 2 ^ 31 by omega), if_true, if_false, not_true_eq_false, not_false_eq_true, and_true, true_and, and_false, false_and, and_self, or_true, true_or, or_false, false_or, reduceIte, iff_self, Int32.add_zero, y_10, Classical.not_not]
    refine m_bec_lp (I := I) _ _ _ d n J K 39 0 rfl I (fun _ _ _ => rfl) (fun q j _ _ => ⟨fun z => absurd z (Nat.not_lt_zero _), fun _ => rfl⟩) (fun I1 w1 w2 => ?_)
    have e5 : I1 103 5 = 40 := by rw [w1 _ _ (by omega), h5]; rfl
    have e9 : (40 : Int32) - 1 = nI 39 := by decide
    simp only [z152_87, z152_88, z152_89, z152_92, z152_93, z152_94, sm_cti, sm_ctr, sm_ctn, sm_nbi, Option.toList_some, Option.toList_none, List.cons_append, List.nil_append, ne_eq, reduceCtorEq, not_false_eq_true, Nat.reduceLeDiff, kc103, e5, e9, if_true, if_false, not_true_eq_false, not_false_eq_true, and_true, true_and, and_false, false_and, and_self, or_true, true_or, or_false, false_or, reduceIte, iff_self, Int32.add_zero, y_10, Classical.not_not]
    refine m_bec_tl (c := 39) (by decide) hk (uI_s _ _ _ _) _ d n J K (fun I' f1 f2 f3 f4 f5 f6 f7 => ?_)
    refine hK I' (fun q b hq => ?_) f2 f3 f4 (fun q j h1 h2 hj => ?_) f5 f6 f7
    · rw [f1 q b (by omega), uI_o _ _ (by omega), w1 q b (by omega)]
    · rw [f1 q j (by omega), uI_q _ _ (by omega), w2 q j h1 h2 (by omega)]
theorem Inv_23 {xs : Nat → Int32} {P D B : Nat} {I I' : sm_I} {J : sm_J} (h1 : iv_ro xs I) (h4 : iv_ta I) (h5 : iv_la I) (h6 : iv_im P D I) (h7 : iv_tu B I) (h8 : iv_sh B I J) (hf : ∀ q b, rg q b ≠ 0 → rg q b ≠ 2 → rg q b ≠ 3 → I' q b = I q b) (k2 : iv_fo P D I') (k3 : iv_ch P I') : Inv xs I' J := by
  have e : ∀ g, g ≠ 0 → g ≠ 2 → g ≠ 3 → ∀ q b, rg q b = g → I' q b = I q b := fun g hg hg2 hg3 q b hr => hf q b (by rw [hr]; exact hg) (by rw [hr]; exact hg2) (by rw [hr]; exact hg3)
  exact ⟨P, D, B, iv_ro_g h1 (e 1 (by decide) (by decide) (by decide)), k2, k3, iv_ta_f h4 (e 4 (by decide) (by decide) (by decide)), iv_la_f h5 (e 5 (by decide) (by decide) (by decide)), iv_im_g h6 (Nat.le_refl _) (Nat.le_refl _) (e 6 (by decide) (by decide) (by decide)), iv_tu_g h7 (e 7 (by decide) (by decide) (by decide)), iv_sh_g h8 (Nat.le_refl _) (e 8 (by decide) (by decide) (by decide)) (fun _ _ _ => rfl)⟩
theorem pw_mend {n : Nat} {xs : Nat → Int32} {I : sm_I} {J : sm_J} (hI : Inv xs I J) (x y v : Int32) : pw n I J 87 [.ref 26, .int x, .int y, .int v, .null] 164 [.ref 103, .int x, .int y, .int v, .null] (fun I2 J2 => Inv xs I2 J2) := by
  obtain ⟨P, D, B, i1, i2, i3, i4, i5, i6, i7, i8⟩ := id hI
  obtain ⟨⟨p1, p2, p3, p4, p5, p6⟩, q, z, e⟩ := id i2
  have hm1 : ((-1 : Int32) < 0) = True := by decide
  intro d K hK
  rcases nm_or p1 p2 x y with ⟨k, hk, rfl, rfl⟩ | hb
  · have hk54 := hk.1
    have ht := ro_top i1 hk54
    have hkw : kw k < 8 := (ro_top0 ⟨k, hk54⟩).2
    have htl := top_le k
    have hk0 : ¬ nI k < 0 := nI_pos (by omega)
    by_cases hv : 0 ≤ v ∧ v ≤ nI (top k)
    · obtain ⟨V, hV, rfl⟩ := nI_of2 (M := nI (top k)) (n := top k) (nI_toInt (by omega)) (Int32.not_lt.mpr hv.1) hv.2
      obtain ⟨q0, w, hw, q1⟩ := q k hk54
      have q2 : I (clq k) (clb k) = nI w := by rw [q0, q1]
      by_cases hwv : nI w = nI V
      · simp only [z87_0, z87_1, z87_2, z87_3, z87_6, z87_9, z87_10, z87_13, z87_14, z87_15, z87_18, z87_21, z87_23, z87_24, z87_25, z87_26, z87_27, z87_30, z87_32, z87_34, z87_35, z87_38, z87_39, z87_42, z87_43, z87_44, z87_46, z87_47, z87_50, z87_51, z87_52, z87_53, z87_54, z87_57, z87_59, sm_cti, sm_ctr, sm_ctn, sm_nbi, Option.toList_some, Option.toList_none, List.cons_append, List.nil_append, ne_eq, reduceCtorEq, not_false_eq_true, Nat.reduceLeDiff, kc1, rc26, c_has p1 p2 hk p3 p4, y_within, y_bit, hv, ht, c_num hk, q2, hwv, y_inN hkw (by decide), nI_clamp (show kw k < 2 ^ 31 by omega), if_true, if_false, not_true_eq_false, not_false_eq_true, and_true, true_and, and_false, false_and, and_self, or_true, true_or, or_false, false_or, reduceIte, iff_self, Int32.add_zero, y_10, Classical.not_not]
        refine hK _ I J (fun K2 h3 => ?_)
        simp only [z164_0, z164_1, z164_2, z164_3, z164_6, z164_8, z164_10, z164_13, z164_14, z164_15, z164_16, z164_17, z164_20, z164_21, z164_24, z164_27, z164_28, z164_30, z164_31, z164_34, z164_37, z164_39, z152_0, z152_1, z152_4, z152_5, z152_6, z152_7, z152_8, z152_9, z152_12, z152_13, sm_cti, sm_ctr, sm_ctn, sm_nbi, Option.toList_some, Option.toList_none, List.cons_append, List.nil_append, ne_eq, reduceCtorEq, not_false_eq_true, Nat.reduceLeDiff, kc103, kc104, rc103, rf103_0, m_place p1 p2 hk p5 p6, m_most hk, m_within, y_w0, y_wid, y_bit, hv, hk0, q1, hwv, y_inN hk54 (by decide), nI_clamp (show k < 2 ^ 31 by omega), if_true, if_false, not_true_eq_false, not_false_eq_true, and_true, true_and, and_false, false_and, and_self, or_true, true_or, or_false, false_or, reduceIte, iff_self, Int32.add_zero, y_10, Classical.not_not]
        exact h3 I J hI
      · obtain ⟨c, m, c1, c2, c3, c4, c5, c6, c7⟩ := id i3
        obtain ⟨s, hs⟩ : ∃ s, (c < 40 ∧ s = 0) ∨ (c = 40 ∧ s = 1) := by
          by_cases hc : c < 40
          · exact ⟨0, Or.inl ⟨hc, rfl⟩⟩
          · exact ⟨1, Or.inr ⟨by omega, rfl⟩⟩
        have hr := cl_rg hk54
        simp only [z87_0, z87_1, z87_2, z87_3, z87_6, z87_9, z87_10, z87_13, z87_14, z87_15, z87_18, z87_21, z87_23, z87_24, z87_25, z87_26, z87_27, z87_30, z87_32, z87_34, z87_35, z87_38, z87_39, z87_42, z87_43, z87_44, z87_46, z87_47, z87_50, z87_51, z87_52, z87_53, z87_54, z87_57, z87_59, sm_cti, sm_ctr, sm_ctn, sm_nbi, Option.toList_some, Option.toList_none, List.cons_append, List.nil_append, ne_eq, reduceCtorEq, not_false_eq_true, Nat.reduceLeDiff, kc1, kc26, rc26, rc54, rf26_6, c_has p1 p2 hk p3 p4, y_within, y_bit, hv, ht, c_num hk, q2, hwv, y_inN hkw (by decide), nI_clamp (show kw k < 2 ^ 31 by omega), if_true, if_false, not_true_eq_false, not_false_eq_true, and_true, true_and, and_false, false_and, and_self, or_true, true_or, or_false, false_or, reduceIte, iff_self, Int32.add_zero, y_10, Classical.not_not]
        refine c_add hs c3 _ _ _ _ (d + 198) n J _ (fun I1 f1 a4 a5 aj a6 a7 a8 a9 => ?_)
        simp only [z87_0, z87_1, z87_2, z87_3, z87_6, z87_9, z87_10, z87_13, z87_14, z87_15, z87_18, z87_21, z87_23, z87_24, z87_25, z87_26, z87_27, z87_30, z87_32, z87_34, z87_35, z87_38, z87_39, z87_42, z87_43, z87_44, z87_46, z87_47, z87_50, z87_51, z87_52, z87_53, z87_54, z87_57, z87_59, sm_cti, sm_ctr, sm_ctn, sm_nbi, Option.toList_some, Option.toList_none, List.cons_append, List.nil_append, ne_eq, reduceCtorEq, not_false_eq_true, Nat.reduceLeDiff, rc26, c_setN hk, if_true, if_false, not_true_eq_false, not_false_eq_true, and_true, true_and, and_false, false_and, and_self, or_true, true_or, or_false, false_or, reduceIte, iff_self, Int32.add_zero, y_10, Classical.not_not]
        refine hK _ _ J (fun K2 h3 => ?_)
        have g : ∀ x c, ¬ (54 ≤ x ∧ x < 59) → ¬ (x = clq k ∧ c = clb k) → sm_uI I1 (clq k) (clb k) (nI V) x c = I x c := fun x c hx hy => by rw [uI_o _ _ hy, f1 x c hx]
        have g1 : ∀ x c, (54 ≤ x ∧ x < 59) → sm_uI I1 (clq k) (clb k) (nI V) x c = I1 x c := fun x c hx => by rw [uI_q _ _ (by omega)]
        have g2 : sm_uI I1 (clq k) (clb k) (nI V) (clq k) (clb k) = nI V := uI_s _ _ _ _
        generalize sm_uI I1 (clq k) (clb k) (nI V) = I2 at *
        have m6 : I2 103 6 = nI P := by rw [g _ _ (by omega) (by omega), p5]
        have m7 : I2 103 7 = nI D := by rw [g _ _ (by omega) (by omega), p6]
        simp only [z164_0, z164_1, z164_2, z164_3, z164_6, z164_8, z164_10, z164_13, z164_14, z164_15, z164_16, z164_17, z164_20, z164_21, z164_24, z164_27, z164_28, z164_30, z164_31, z164_34, z164_37, z164_39, sm_cti, sm_ctr, sm_ctn, sm_nbi, Option.toList_some, Option.toList_none, List.cons_append, List.nil_append, ne_eq, reduceCtorEq, not_false_eq_true, Nat.reduceLeDiff, kc103, rc103, m_place p1 p2 hk m6 m7, m_most hk, m_within, y_w0, y_wid, y_bit, hv, hk0, if_true, if_false, not_true_eq_false, not_false_eq_true, and_true, true_and, and_false, false_and, and_self, or_true, true_or, or_false, false_or, reduceIte, iff_self, Int32.add_zero, y_10, Classical.not_not]
        refine m_becomes hs hk54 hwv (by rw [g _ _ (by omega) (by omega), c5]) (by rw [g _ _ (by omega) (by omega), q1]) (d + 199) n J _ (fun I3 w1 w2 w3 w4 w5 w6 w7 w8 => ?_)
        simp only [z164_0, z164_1, z164_2, z164_3, z164_6, z164_8, z164_10, z164_13, z164_14, z164_15, z164_16, z164_17, z164_20, z164_21, z164_24, z164_27, z164_28, z164_30, z164_31, z164_34, z164_37, z164_39, sm_cti, sm_ctr, sm_ctn, sm_nbi, Option.toList_some, Option.toList_none, List.cons_append, List.nil_append, ne_eq, reduceCtorEq, not_false_eq_true, Nat.reduceLeDiff, if_true, if_false, not_true_eq_false, not_false_eq_true, and_true, true_and, and_false, false_and, and_self, or_true, true_or, or_false, false_or, reduceIte, iff_self, Int32.add_zero, y_10, Classical.not_not]
        refine h3 I3 J ?_
        have t : ∀ x c, ¬ ((54 ≤ x ∧ x < 59) ∨ (x = clq k ∧ c = clb k) ∨ (105 ≤ x ∧ x < 108) ∨ (x = 104 ∧ c = k) ∨ (x = 103 ∧ (c = 4 ∨ c = 5))) → I3 x c = I x c := fun x c hx => by rw [w1 x c (by omega), g x c (by omega) (by omega)]
        have t5 : ∀ x c, (54 ≤ x ∧ x < 59) → I3 x c = I1 x c := fun x c hx => by rw [w1 x c (by omega), g1 x c hx]
        refine Inv_23 i1 i4 i5 i6 i7 i8 (fr23 (fun x c hx => t x c (by omega))) (fo_set (k := k) (v := V) i2 hk54 hV (fun h1 h2 => by have := hk.2.1 (by omega); omega) (by rw [w1 _ _ (by omega), g2]) w4 (fun x c hx hy hz => t x c (by omega))) ⟨c - s + 1, c - s + 1, Nat.le_refl _, ⟨by omega, by rw [t _ _ (by omega), c2.2]⟩, by rw [t5 _ _ (by omega), a4], by rw [t5 _ _ (by omega), a5], w2, w3, fun j hj => ?_⟩
        by_cases hjc : j = c - s
        · subst hjc
          exact ⟨k, w, V, hk54, fun h1 h2 => by have := hk.2.1 (by omega); omega, hw, hV, w6, by rw [t5 _ _ (by omega), a6], by rw [t5 _ _ (by omega), a7], w7, by rw [t5 _ _ (by omega), a8], w8, by rw [t5 _ _ (by omega), a9]⟩
        · obtain ⟨k', a, b, r1, r2, r3, r4, r5, r6, r7, r8, r9, r10, r11⟩ := c7 (j + s) (by omega)
          have hj' : j < c - s := by omega
          refine ⟨k', a, b, r1, r2, r3, r4, ?_, ?_, ?_, ?_, ?_, ?_, ?_⟩
          · rw [w5 _ _ (by omega) (by omega) hj', g _ _ (by omega) (by omega), r5]
          · rw [t5 _ _ (by omega), aj _ _ (by omega) (by omega) hj', r6]
          · rw [t5 _ _ (by omega), aj _ _ (by omega) (by omega) hj', r7]
          · rw [w5 _ _ (by omega) (by omega) hj', g _ _ (by omega) (by omega), r8]
          · rw [t5 _ _ (by omega), aj _ _ (by omega) (by omega) hj', r9]
          · rw [w5 _ _ (by omega) (by omega) hj', g _ _ (by omega) (by omega), r10]
          · rw [t5 _ _ (by omega), aj _ _ (by omega) (by omega) hj', r11]
    · simp only [z87_0, z87_1, z87_2, z87_3, z87_6, z87_9, z87_10, z87_13, z87_14, z87_15, z87_18, z87_21, z87_23, z87_24, z87_25, z87_26, z87_27, z87_30, z87_32, z87_34, z87_35, z87_38, z87_39, z87_42, z87_43, z87_44, z87_46, z87_47, z87_50, z87_51, z87_52, z87_53, z87_54, z87_57, z87_59, sm_cti, sm_ctr, sm_ctn, sm_nbi, Option.toList_some, Option.toList_none, List.cons_append, List.nil_append, ne_eq, reduceCtorEq, not_false_eq_true, Nat.reduceLeDiff, kc1, rc26, c_has p1 p2 hk p3 p4, y_within, y_bit, hv, ht, y_inN hkw (by decide), nI_clamp (show kw k < 2 ^ 31 by omega), if_true, if_false, not_true_eq_false, not_false_eq_true, and_true, true_and, and_false, false_and, and_self, or_true, true_or, or_false, false_or, reduceIte, iff_self, Int32.add_zero, y_10, Classical.not_not]
      refine hK _ I J (fun K2 h3 => ?_)
      simp only [z164_0, z164_1, z164_2, z164_3, z164_6, z164_8, z164_10, z164_13, z164_14, z164_15, z164_16, z164_17, z164_20, z164_21, z164_24, z164_27, z164_28, z164_30, z164_31, z164_34, z164_37, z164_39, sm_cti, sm_ctr, sm_ctn, sm_nbi, Option.toList_some, Option.toList_none, List.cons_append, List.nil_append, ne_eq, reduceCtorEq, not_false_eq_true, Nat.reduceLeDiff, rc103, m_place p1 p2 hk p5 p6, m_most hk, m_within, y_w0, y_wid, y_bit, hv, hk0, if_true, if_false, not_true_eq_false, not_false_eq_true, and_true, true_and, and_false, false_and, and_self, or_true, true_or, or_false, false_or, reduceIte, iff_self, Int32.add_zero, y_10, Classical.not_not]
      exact h3 I J hI
  · simp only [z87_0, z87_1, z87_2, z87_3, z87_6, z87_9, z87_10, z87_13, z87_14, z87_15, z87_18, z87_21, z87_23, z87_24, z87_25, z87_26, z87_27, z87_30, z87_32, z87_34, z87_35, z87_38, z87_39, z87_42, z87_43, z87_44, z87_46, z87_47, z87_50, z87_51, z87_52, z87_53, z87_54, z87_57, z87_59, sm_cti, sm_ctr, sm_ctn, sm_nbi, Option.toList_some, Option.toList_none, List.cons_append, List.nil_append, ne_eq, reduceCtorEq, not_false_eq_true, Nat.reduceLeDiff, rc26, c_hasB hb p3 p4, if_true, if_false, not_true_eq_false, not_false_eq_true, and_true, true_and, and_false, false_and, and_self, or_true, true_or, or_false, false_or, reduceIte, iff_self, Int32.add_zero, y_10, Classical.not_not]
    refine hK _ I J (fun K2 h3 => ?_)
    simp only [z164_0, z164_1, z164_2, z164_3, z164_6, z164_8, z164_10, z164_13, z164_14, z164_15, z164_16, z164_17, z164_20, z164_21, z164_24, z164_27, z164_28, z164_30, z164_31, z164_34, z164_37, z164_39, sm_cti, sm_ctr, sm_ctn, sm_nbi, Option.toList_some, Option.toList_none, List.cons_append, List.nil_append, ne_eq, reduceCtorEq, not_false_eq_true, Nat.reduceLeDiff, rc103, m_placeB p1 p2 hb p5 p6, hm1, if_true, if_false, not_true_eq_false, not_false_eq_true, and_true, true_and, and_false, false_and, and_self, or_true, true_or, or_false, false_or, reduceIte, iff_self, Int32.add_zero, y_10, Classical.not_not]
    exact h3 I J hI
