/-! tunes: kinds, what is above -/
theorem y_in8 (x : Int32) : (sm_in x 8 = true) = (0 ≤ x ∧ x ≤ 7) := y_inC (c := 7) (by decide)
theorem y_in32 (x : Int32) : (sm_in x 32 = true) = (0 ≤ x ∧ x ≤ 31) := y_inC (c := 31) (by decide)
theorem y_nI8 {k : Nat} (h : k < 8) : nI k = 0 ∨ nI k = 1 ∨ nI k = 2 ∨ nI k = 3 ∨ nI k = 4 ∨ nI k = 5 ∨ nI k = 6 ∨ nI k = 7 := by
  rcases (show k = 0 ∨ k = 1 ∨ k = 2 ∨ k = 3 ∨ k = 4 ∨ k = 5 ∨ k = 6 ∨ k = 7 by omega) with rfl | rfl | rfl | rfl | rfl | rfl | rfl | rfl <;> decide
theorem ro2 {xs : Nat → Int32} {I : sm_I} (h : iv_ro xs I) : I 2 0 = -1 ∧ I 2 1 = 0 ∧ I 2 2 = 0 ∧ I 2 3 = 2 ∧ I 2 4 = 1 ∧ I 2 5 = 3 ∧ I 2 6 = 0 ∧ I 2 7 = 4 := by
  refine ⟨?_, ?_, ?_, ?_, ?_, ?_, ?_, ?_⟩ <;> (rw [h _ _ (by decide)]; rfl)
theorem y_kindOf (d n : Nat) (I : sm_I) (J : sm_J) (K : Option Value → sm_H → Prop) {B b : Nat} (hB : I 87 1 = nI B) (hB2 : B ≤ 50) (hb : b < B) : sm_Ok (d + 1) 68 0 [.ref 87, .int (nI b)] [] (sm_SH n, I, J) K ↔ K (some (.int (I 89 b))) (sm_SH n, I, J) := by
  simp only [z68_0, z68_1, z68_2, z68_5, z68_8, z68_9, z68_12, z68_13, z68_14, z68_17, z68_18, sm_cti, sm_ctr, sm_ctn, sm_nbi, Option.toList_some, Option.toList_none, List.cons_append, List.nil_append, ne_eq, reduceCtorEq, not_false_eq_true, Nat.reduceLeDiff, kc87, kc89, rc87, rf87_3, y_tIs, hB, y_idx_of hb (show B < 2 ^ 31 by omega), y_bit, y_inN (show b < 50 by omega) (by decide), nI_clamp (show b < 2 ^ 31 by omega), if_true, if_false, not_true_eq_false, not_false_eq_true, and_true, true_and, and_false, false_and, and_self, or_true, true_or, or_false, false_or, reduceIte, iff_self, Int32.add_zero, y_10]
/-- whether a kind is another, or below it -/
def y_und (k t : Int32) : Int32 := if t = k ∨ (k = 1 ∧ t = 0) ∨ (k = 2 ∧ t = 0) ∨ (k = 3 ∧ (t = 2 ∨ t = 0)) ∨ (k = 4 ∧ (t = 1 ∨ t = 0)) ∨ (k = 5 ∧ (t = 3 ∨ t = 2 ∨ t = 0)) ∨ (k = 6 ∧ t = 0) ∨ (k = 7 ∧ (t = 4 ∨ t = 1 ∨ t = 0)) then 1 else 0
theorem y_u_step (d n : Nat) {I : sm_I} (J : sm_J) (K : Option Value → sm_H → Prop) {b i : Nat} {k k' t : Int32} (h0 : 0 ≤ k ∧ k ≤ 7) (hr : I 2 k.toNatClampNeg = k') (hi : i ≤ 7) : sm_Ok d 69 9 [.ref 87, .int (nI b), .int t, .int k, .int (nI i)] [] (sm_SH n, I, J) K ↔ if t = k then K (some (.int 1)) (sm_SH n, I, J) else sm_Ok d 69 9 [.ref 87, .int (nI b), .int t, .int k', .int (nI (i + 1))] [] (sm_SH n, I, J) K := by
  have h7 : ¬ (7 : Int32) < nI i := nI_nlt (a := 7) (b := i) hi (by decide)
  rw [z69_9]
  simp only [z69_26_0, z69_26_1, z69_40_0, z69_40_1, z69_0, z69_1, z69_2, z69_5, z69_6, z69_7, z69_11, z69_13, z69_16, z69_17, z69_20, z69_21, z69_22, z69_25, z69_26, z69_27, z69_30, z69_31, z69_32, z69_33, z69_36, z69_39, z69_40, sm_cti, sm_ctr, sm_ctn, sm_nbi, Option.toList_some, Option.toList_none, List.cons_append, List.nil_append, ne_eq, reduceCtorEq, not_false_eq_true, Nat.reduceLeDiff, kc2, y_in8, h0, hr, h7, nI_1, Int32.not_lt.mpr h0.1, if_true, if_false, not_true_eq_false, not_false_eq_true, and_true, true_and, and_false, false_and, and_self, or_true, true_or, or_false, false_or, reduceIte, iff_self, Int32.add_zero, y_10]
  by_cases e : t = k
  · simp only [e, if_true, if_false, not_true_eq_false, not_false_eq_true, and_true, true_and, and_false, false_and, and_self, or_true, true_or, or_false, false_or, reduceIte, iff_self, Int32.add_zero, y_10]
  · have e' : ¬ k = t := fun z => e z.symm
    simp only [e, e', if_true, if_false, not_true_eq_false, not_false_eq_true, and_true, true_and, and_false, false_and, and_self, or_true, true_or, or_false, false_or, reduceIte, iff_self, Int32.add_zero, y_10]
theorem y_u_end (d n : Nat) {I : sm_I} (J : sm_J) (K : Option Value → sm_H → Prop) {b i : Nat} {t : Int32} (hi : i ≤ 7) : sm_Ok d 69 9 [.ref 87, .int (nI b), .int t, .int (-1), .int (nI i)] [] (sm_SH n, I, J) K ↔ K (some (.int 0)) (sm_SH n, I, J) := by
  have h7 : ¬ (7 : Int32) < nI i := nI_nlt (a := 7) (b := i) hi (by decide)
  have h1 : (-1 : Int32) < 0 := by decide
  rw [z69_9]
  simp only [z69_26_0, z69_26_1, z69_40_0, z69_40_1, z69_0, z69_1, z69_2, z69_5, z69_6, z69_7, z69_11, z69_13, z69_16, z69_17, z69_20, z69_21, z69_22, z69_25, z69_26, z69_27, z69_30, z69_31, z69_32, z69_33, z69_36, z69_39, z69_40, sm_cti, sm_ctr, sm_ctn, sm_nbi, Option.toList_some, Option.toList_none, List.cons_append, List.nil_append, ne_eq, reduceCtorEq, not_false_eq_true, Nat.reduceLeDiff, h7, h1, if_true, if_false, not_true_eq_false, not_false_eq_true, and_true, true_and, and_false, false_and, and_self, or_true, true_or, or_false, false_or, reduceIte, iff_self, Int32.add_zero, y_10]
theorem y_isUnder {xs : Nat → Int32} {I : sm_I} (h : iv_ro xs I) (d n : Nat) (J : sm_J) (K : Option Value → sm_H → Prop) {B b k : Nat} (hB : I 87 1 = nI B) (hB2 : B ≤ 50) (hb : b < B) (hk : k < 8) (hI : I 89 b = nI k) (t : Int32) : sm_Ok (d + 2) 69 0 [.ref 87, .int (nI b), .int t, .null, .null] [] (sm_SH n, I, J) K ↔ K (some (.int (y_und (nI k) t))) (sm_SH n, I, J) := by
  obtain ⟨r0, r1, r2, r3, r4, r5, r6, r7⟩ := ro2 h
  have f0 := fun i hi => y_u_step (d + 2) n J K (b := b) (i := i) (t := t) (k := 0) (by decide) r0 hi
  have f1 := fun i hi => y_u_step (d + 2) n J K (b := b) (i := i) (t := t) (k := 1) (by decide) r1 hi
  have f2 := fun i hi => y_u_step (d + 2) n J K (b := b) (i := i) (t := t) (k := 2) (by decide) r2 hi
  have f3 := fun i hi => y_u_step (d + 2) n J K (b := b) (i := i) (t := t) (k := 3) (by decide) r3 hi
  have f4 := fun i hi => y_u_step (d + 2) n J K (b := b) (i := i) (t := t) (k := 4) (by decide) r4 hi
  have f5 := fun i hi => y_u_step (d + 2) n J K (b := b) (i := i) (t := t) (k := 5) (by decide) r5 hi
  have f6 := fun i hi => y_u_step (d + 2) n J K (b := b) (i := i) (t := t) (k := 6) (by decide) r6 hi
  have f7 := fun i hi => y_u_step (d + 2) n J K (b := b) (i := i) (t := t) (k := 7) (by decide) r7 hi
  have fe := fun i hi => y_u_end (d + 2) n (I := I) J K (b := b) (i := i) (t := t) hi
  simp only [z69_26_0, z69_26_1, z69_40_0, z69_40_1, z69_0, z69_1, z69_2, z69_5, z69_6, z69_7, z69_11, z69_13, z69_16, z69_17, z69_20, z69_21, z69_22, z69_25, z69_26, z69_27, z69_30, z69_31, z69_32, z69_33, z69_36, z69_39, z69_40, sm_cti, sm_ctr, sm_ctn, sm_nbi, Option.toList_some, Option.toList_none, List.cons_append, List.nil_append, ne_eq, reduceCtorEq, not_false_eq_true, Nat.reduceLeDiff, rc87, y_kindOf _ _ _ _ _ hB hB2 hb, hI]
  rw [show (0 : Int32) = nI 0 from nI_0.symm]
  unfold y_und
  rcases y_nI8 hk with e | e | e | e | e | e | e | e <;> rw [e]
  · rw [f0 0 (by decide), fe _ (by decide)]
    (repeat' split) <;> simp_all
  · rw [f1 0 (by decide), f0 _ (by decide), fe _ (by decide)]
    (repeat' split) <;> simp_all
  · rw [f2 0 (by decide), f0 _ (by decide), fe _ (by decide)]
    (repeat' split) <;> simp_all
  · rw [f3 0 (by decide), f2 _ (by decide), f0 _ (by decide), fe _ (by decide)]
    (repeat' split) <;> simp_all
  · rw [f4 0 (by decide), f1 _ (by decide), f0 _ (by decide), fe _ (by decide)]
    (repeat' split) <;> simp_all
  · rw [f5 0 (by decide), f3 _ (by decide), f2 _ (by decide), f0 _ (by decide), fe _ (by decide)]
    (repeat' split) <;> simp_all
  · rw [f6 0 (by decide), f0 _ (by decide), fe _ (by decide)]
    (repeat' split) <;> simp_all
  · rw [f7 0 (by decide), f4 _ (by decide), f1 _ (by decide), f0 _ (by decide), fe _ (by decide)]
    (repeat' split) <;> simp_all
theorem y_takenB (d n : Nat) (I : sm_I) (J : sm_J) (K : Option Value → sm_H → Prop) {x t : Int32} (hx : ¬ ((0 ≤ x ∧ x ≤ 5) ∧ (0 ≤ t ∧ t ≤ 7))) : sm_Ok (d + 3) 124 0 [.ref 26, .int x, .int t, .null] [] (sm_SH n, I, J) K ↔ K (some (.int (-1))) (sm_SH n, I, J) := by
  simp only [z124_0, z124_1, z124_4, z124_7, z124_8, z124_10, z124_13, z124_16, z124_17, z124_18, z124_19, z124_22, z124_23, z124_24, z124_25, z124_26, z124_29, z124_32, z124_34, z124_35, z124_36, z124_39, z124_42, z124_43, z124_46, z124_47, z124_50, z124_51, z124_54, z124_57, z124_59, z124_60, z124_61, z124_64, z124_65, z124_68, z124_71, sm_cti, sm_ctr, sm_ctn, sm_nbi, Option.toList_some, Option.toList_none, List.cons_append, List.nil_append, ne_eq, reduceCtorEq, not_false_eq_true, Nat.reduceLeDiff, y_isShelf, y_within, y_bit]
  (repeat' split) <;> simp_all
theorem m_takenB (d n : Nat) (I : sm_I) (J : sm_J) (K : Option Value → sm_H → Prop) {x t : Int32} (hx : ¬ ((0 ≤ x ∧ x ≤ 5) ∧ (0 ≤ t ∧ t ≤ 7))) : sm_Ok (d + 3) 238 0 [.ref 103, .int x, .int t, .null] [] (sm_SH n, I, J) K ↔ K (some (.int (-1))) (sm_SH n, I, J) := by
  simp only [z238_0, z238_1, z238_4, z238_7, z238_8, z238_9, z238_10, z238_13, z238_16, z238_19, z238_20, z238_21, z238_22, z238_25, z238_26, z238_27, z238_30, z238_32, z238_33, z238_34, z238_37, z238_38, z238_39, z238_41, z238_44, z238_46, z238_47, z238_48, z238_49, z238_52, z238_53, z238_54, z238_57, z238_59, z238_60, z238_63, z238_64, z238_67, z238_68, z238_71, z238_72, z238_75, z238_76, z238_77, z238_80, z238_81, z238_82, z238_85, z238_86, z238_87, z238_90, z238_93, z238_95, sm_cti, sm_ctr, sm_ctn, sm_nbi, Option.toList_some, Option.toList_none, List.cons_append, List.nil_append, ne_eq, reduceCtorEq, not_false_eq_true, Nat.reduceLeDiff, m_isShelf, m_within, y_w0, y_v7, y_bit]
  (repeat' split) <;> simp_all
/-- no tune there -/
theorem y_takenN (d n : Nat) (I : sm_I) (J : sm_J) (K : Option Value → sm_H → Prop) {s : Nat} {t : Int32} (hs : s < 6) (ht : 0 ≤ t ∧ t ≤ 7) (h1 : I (91 + 2 * s) 1 = -1) : sm_Ok (d + 3) 124 0 [.ref 26, .int (nI s), .int t, .null] [] (sm_SH n, I, J) K ↔ K (some (.int (if I (91 + 2 * s) 2 = -1 then -11 else -12))) (sm_SH n, I, J) := by
  obtain ⟨k1, k2, k3⟩ := y_shelf hs
  simp +decide only [z124_0, z124_1, z124_4, z124_7, z124_8, z124_10, z124_13, z124_16, z124_17, z124_18, z124_19, z124_22, z124_23, z124_24, z124_25, z124_26, z124_29, z124_32, z124_34, z124_35, z124_36, z124_39, z124_42, z124_43, z124_46, z124_47, z124_50, z124_51, z124_54, z124_57, z124_59, z124_60, z124_61, z124_64, z124_65, z124_68, z124_71, sm_cti, sm_ctr, sm_ctn, sm_nbi, Option.toList_some, Option.toList_none, List.cons_append, List.nil_append, ne_eq, reduceCtorEq, not_false_eq_true, Nat.reduceLeDiff, kc26, kc90, rf26_12, y_isShelf, y_sh5 hs, y_within, ht, y_bit, y_inN hs (by decide), nI_clamp (show s < 2 ^ 31 by omega), k1, sm_rc_of k1, y_isEmpty _ _ _ _ _ k1, y_isTune _ _ _ _ _ k1, h1, if_true, if_false, not_true_eq_false, not_false_eq_true, and_true, true_and, and_false, false_and, and_self, or_true, true_or, or_false, false_or, reduceIte, iff_self, Int32.add_zero, y_10]
  (repeat' split) <;> simp_all
theorem y_takenT {xs : Nat → Int32} {I : sm_I} (h : iv_ro xs I) (d n : Nat) (J : sm_J) (K : Option Value → sm_H → Prop) {B b k s : Nat} {t : Int32} (hB : I 87 1 = nI B) (hB2 : B ≤ 50) (hb : b < B) (hk : k < 8) (hI : I 89 b = nI k) (hs : s < 6) (ht : 0 ≤ t ∧ t ≤ 7) (h1 : I (91 + 2 * s) 1 = nI b) : sm_Ok (d + 3) 124 0 [.ref 26, .int (nI s), .int t, .null] [] (sm_SH n, I, J) K ↔ K (some (.int (if y_und (nI k) t = 1 then nI k else -12))) (sm_SH n, I, J) := by
  obtain ⟨k1, k2, k3⟩ := y_shelf hs
  have h0 : (0 : Int32) ≤ nI b := nI_pos' (by omega)
  simp only [z124_0, z124_1, z124_4, z124_7, z124_8, z124_10, z124_13, z124_16, z124_17, z124_18, z124_19, z124_22, z124_23, z124_24, z124_25, z124_26, z124_29, z124_32, z124_34, z124_35, z124_36, z124_39, z124_42, z124_43, z124_46, z124_47, z124_50, z124_51, z124_54, z124_57, z124_59, z124_60, z124_61, z124_64, z124_65, z124_68, z124_71, sm_cti, sm_ctr, sm_ctn, sm_nbi, Option.toList_some, Option.toList_none, List.cons_append, List.nil_append, ne_eq, reduceCtorEq, not_false_eq_true, Nat.reduceLeDiff, kc26, kc90, rf26_12, rf26_11, rc87, y_isShelf, y_sh5 hs, y_within, ht, y_bit, y_inN hs (by decide), nI_clamp (show s < 2 ^ 31 by omega), k1, sm_rc_of k1, y_isEmpty _ _ _ _ _ k1, y_isTune _ _ _ _ _ k1, h1, h0, y_isUnder h _ _ _ _ hB hB2 hb hk hI, y_kindOf _ _ _ _ _ hB hB2 hb, hI, if_true, if_false, not_true_eq_false, not_false_eq_true, and_true, true_and, and_false, false_and, and_self, or_true, true_or, or_false, false_or, reduceIte, iff_self, Int32.add_zero, y_10]
  unfold y_und
  (repeat' split) <;> simp_all
theorem m_takenN (d n : Nat) (I : sm_I) (J : sm_J) (K : Option Value → sm_H → Prop) {s : Nat} {t : Int32} (hs : s < 6) (ht : 0 ≤ t ∧ t ≤ 7) (h1 : I 126 s < 0 ∨ 50 ≤ I 126 s) : sm_Ok (d + 3) 238 0 [.ref 103, .int (nI s), .int t, .null] [] (sm_SH n, I, J) K ↔ K (some (.int (if I 126 s < 0 then -11 else -12))) (sm_SH n, I, J) := by
  simp only [z238_0, z238_1, z238_4, z238_7, z238_8, z238_9, z238_10, z238_13, z238_16, z238_19, z238_20, z238_21, z238_22, z238_25, z238_26, z238_27, z238_30, z238_32, z238_33, z238_34, z238_37, z238_38, z238_39, z238_41, z238_44, z238_46, z238_47, z238_48, z238_49, z238_52, z238_53, z238_54, z238_57, z238_59, z238_60, z238_63, z238_64, z238_67, z238_68, z238_71, z238_72, z238_75, z238_76, z238_77, z238_80, z238_81, z238_82, z238_85, z238_86, z238_87, z238_90, z238_93, z238_95, sm_cti, sm_ctr, sm_ctn, sm_nbi, Option.toList_some, Option.toList_none, List.cons_append, List.nil_append, ne_eq, reduceCtorEq, not_false_eq_true, Nat.reduceLeDiff, kc103, kc126, rf103_44, m_isShelf, y_sh5 hs, m_within, y_w0, y_v7, ht, y_bit, y_inN hs (by decide), nI_clamp (show s < 2 ^ 31 by omega), y_lt, if_true, if_false, not_true_eq_false, not_false_eq_true, and_true, true_and, and_false, false_and, and_self, or_true, true_or, or_false, false_or, reduceIte, iff_self, Int32.add_zero, y_10] at h1 ⊢
  (repeat' split) <;> simp_all
theorem m_u_end {I : sm_I} (d n : Nat) (J : sm_J) (K : Option Value → sm_H → Prop) {b k s : Nat} {t i : Int32} (hb : b < 50) (hI : I 124 b = nI k) (hs : s < 6) (h1 : I 126 s = nI b) : sm_Ok (d + 3) 238 75 [.ref 103, .int (nI s), .int t, .int i] [] (sm_SH n, I, J) K ↔ K (some (.int (if i = t then nI k else -12))) (sm_SH n, I, J) := by
  simp only [z238_0, z238_1, z238_4, z238_7, z238_8, z238_9, z238_10, z238_13, z238_16, z238_19, z238_20, z238_21, z238_22, z238_25, z238_26, z238_27, z238_30, z238_32, z238_33, z238_34, z238_37, z238_38, z238_39, z238_41, z238_44, z238_46, z238_47, z238_48, z238_49, z238_52, z238_53, z238_54, z238_57, z238_59, z238_60, z238_63, z238_64, z238_67, z238_68, z238_71, z238_72, z238_75, z238_76, z238_77, z238_80, z238_81, z238_82, z238_85, z238_86, z238_87, z238_90, z238_93, z238_95, sm_cti, sm_ctr, sm_ctn, sm_nbi, Option.toList_some, Option.toList_none, List.cons_append, List.nil_append, ne_eq, reduceCtorEq, not_false_eq_true, Nat.reduceLeDiff, kc103, kc126, rc103, rf103_44, y_inN hs (by decide), nI_clamp (show s < 2 ^ 31 by omega), h1, m_kindOf _ _ _ _ _ hb, hI, if_true, if_false, not_true_eq_false, not_false_eq_true, and_true, true_and, and_false, false_and, and_self, or_true, true_or, or_false, false_or, reduceIte, iff_self, Int32.add_zero, y_10]
  by_cases e : i = t
  · simp only [e, if_true, if_false, not_true_eq_false, not_false_eq_true, and_true, true_and, and_false, false_and, and_self, or_true, true_or, or_false, false_or, reduceIte, iff_self, Int32.add_zero, y_10]
  · simp only [e, if_true, if_false, not_true_eq_false, not_false_eq_true, and_true, true_and, and_false, false_and, and_self, or_true, true_or, or_false, false_or, reduceIte, iff_self, Int32.add_zero, y_10]
theorem m_u_step {I : sm_I} (d n : Nat) (J : sm_J) (K : Option Value → sm_H → Prop) {b k s : Nat} {t i : Int32} (hb : b < 50) (hI : I 124 b = nI k) (hs : s < 6) (h1 : I 126 s = nI b) (hi : ¬ i ≤ 0) : sm_Ok (d + 3) 238 58 [.ref 103, .int (nI s), .int t, .int i] [] (sm_SH n, I, J) K ↔ if t = i then K (some (.int (nI k))) (sm_SH n, I, J) else sm_Ok (d + 3) 238 58 [.ref 103, .int (nI s), .int t, .int (y_up i)] [] (sm_SH n, I, J) K := by
  rw [z238_58]
  simp only [z238_59, z238_60, z238_63, z238_64, z238_67, z238_68, z238_71, z238_72, sm_cti, sm_ctr, sm_ctn, sm_nbi, Option.toList_some, Option.toList_none, List.cons_append, List.nil_append, ne_eq, reduceCtorEq, not_false_eq_true, Nat.reduceLeDiff, m_above1, m_u_end d n J K hb hI hs h1, hi, if_true, if_false, not_true_eq_false, not_false_eq_true, and_true, true_and, and_false, false_and, and_self, or_true, true_or, or_false, false_or, reduceIte, iff_self, Int32.add_zero, y_10]
  by_cases e : t = i
  · simp only [e, if_true, if_false, not_true_eq_false, not_false_eq_true, and_true, true_and, and_false, false_and, and_self, or_true, true_or, or_false, false_or, reduceIte, iff_self, Int32.add_zero, y_10]
  · have e' : ¬ i = t := fun z => e z.symm
    simp only [e, e', if_true, if_false, not_true_eq_false, not_false_eq_true, and_true, true_and, and_false, false_and, and_self, or_true, true_or, or_false, false_or, reduceIte, iff_self, Int32.add_zero, y_10]
theorem m_u_0 {I : sm_I} (d n : Nat) (J : sm_J) (K : Option Value → sm_H → Prop) {b k s : Nat} {t : Int32} (hb : b < 50) (hI : I 124 b = nI k) (hs : s < 6) (h1 : I 126 s = nI b) : sm_Ok (d + 3) 238 58 [.ref 103, .int (nI s), .int t, .int 0] [] (sm_SH n, I, J) K ↔ if t = 0 then K (some (.int (nI k))) (sm_SH n, I, J) else K (some (.int (-12))) (sm_SH n, I, J) := by
  rw [z238_58]
  simp only [z238_59, z238_60, z238_63, z238_64, z238_67, z238_68, z238_71, z238_72, sm_cti, sm_ctr, sm_ctn, sm_nbi, Option.toList_some, Option.toList_none, List.cons_append, List.nil_append, ne_eq, reduceCtorEq, not_false_eq_true, Nat.reduceLeDiff, m_u_end d n J K hb hI hs h1, Int32.le_refl, if_true, if_false, not_true_eq_false, not_false_eq_true, and_true, true_and, and_false, false_and, and_self, or_true, true_or, or_false, false_or, reduceIte, iff_self, Int32.add_zero, y_10]
  by_cases e : t = 0
  · simp only [e, if_true, if_false, not_true_eq_false, not_false_eq_true, and_true, true_and, and_false, false_and, and_self, or_true, true_or, or_false, false_or, reduceIte, iff_self, Int32.add_zero, y_10]
  · have e' : ¬ 0 = t := fun z => e z.symm
    simp only [e, e', if_true, if_false, not_true_eq_false, not_false_eq_true, and_true, true_and, and_false, false_and, and_self, or_true, true_or, or_false, false_or, reduceIte, iff_self, Int32.add_zero, y_10]
theorem m_takenT {I : sm_I} (d n : Nat) (J : sm_J) (K : Option Value → sm_H → Prop) {b k s : Nat} {t : Int32} (hb : b < 50) (hk : k < 8) (hI : I 124 b = nI k) (hs : s < 6) (ht : 0 ≤ t ∧ t ≤ 7) (h1 : I 126 s = nI b) : sm_Ok (d + 3) 238 0 [.ref 103, .int (nI s), .int t, .null] [] (sm_SH n, I, J) K ↔ K (some (.int (if y_und (nI k) t = 1 then nI k else -12))) (sm_SH n, I, J) := by
  have h0 : (0 : Int32) ≤ nI b := nI_pos' (by omega)
  have h5 : nI b < 50 := nI_lt (b := 50) hb (by decide)
  simp only [z238_0, z238_1, z238_4, z238_7, z238_8, z238_9, z238_10, z238_13, z238_16, z238_19, z238_20, z238_21, z238_22, z238_25, z238_26, z238_27, z238_30, z238_32, z238_33, z238_34, z238_37, z238_38, z238_39, z238_41, z238_44, z238_46, z238_47, z238_48, z238_49, z238_52, z238_53, z238_54, z238_57, z238_59, z238_60, z238_63, z238_64, z238_67, z238_68, z238_71, z238_72, z238_75, z238_76, z238_77, z238_80, z238_81, z238_82, z238_85, z238_86, z238_87, z238_90, z238_93, z238_95, sm_cti, sm_ctr, sm_ctn, sm_nbi, Option.toList_some, Option.toList_none, List.cons_append, List.nil_append, ne_eq, reduceCtorEq, not_false_eq_true, Nat.reduceLeDiff, kc103, kc126, rc103, rf103_44, m_isShelf, y_sh5 hs, m_within, y_w0, y_v7, ht, y_bit, y_inN hs (by decide), nI_clamp (show s < 2 ^ 31 by omega), h1, h0, h5, m_kindOf _ _ _ _ _ hb, hI, if_true, if_false, not_true_eq_false, not_false_eq_true, and_true, true_and, and_false, false_and, and_self, or_true, true_or, or_false, false_or, reduceIte, iff_self, Int32.add_zero, y_10]
  have f0 := m_u_0 d n J K (t := t) hb hI hs h1
  have f1 := m_u_step d n J K (t := t) (i := 1) hb hI hs h1 (by decide)
  have f2 := m_u_step d n J K (t := t) (i := 2) hb hI hs h1 (by decide)
  have f3 := m_u_step d n J K (t := t) (i := 3) hb hI hs h1 (by decide)
  have f4 := m_u_step d n J K (t := t) (i := 4) hb hI hs h1 (by decide)
  have f5 := m_u_step d n J K (t := t) (i := 5) hb hI hs h1 (by decide)
  have f6 := m_u_step d n J K (t := t) (i := 6) hb hI hs h1 (by decide)
  have f7 := m_u_step d n J K (t := t) (i := 7) hb hI hs h1 (by decide)
  rw [show y_up 1 = 0 by decide] at f1
  rw [show y_up 2 = 0 by decide] at f2
  rw [show y_up 3 = 2 by decide] at f3
  rw [show y_up 4 = 1 by decide] at f4
  rw [show y_up 5 = 3 by decide] at f5
  rw [show y_up 6 = 0 by decide] at f6
  rw [show y_up 7 = 4 by decide] at f7
  unfold y_und
  rcases y_nI8 hk with e | e | e | e | e | e | e | e
  · rw [e, f0, e]
    clear f0 f1 f2 f3 f4 f5 f6 f7 hI e
    (repeat' split) <;> simp_all
  · rw [e, f1, f0, e]
    clear f0 f1 f2 f3 f4 f5 f6 f7 hI e
    (repeat' split) <;> simp_all
  · rw [e, f2, f0, e]
    clear f0 f1 f2 f3 f4 f5 f6 f7 hI e
    (repeat' split) <;> simp_all
  · rw [e, f3, f2, f0, e]
    clear f0 f1 f2 f3 f4 f5 f6 f7 hI e
    (repeat' split) <;> simp_all
  · rw [e, f4, f1, f0, e]
    clear f0 f1 f2 f3 f4 f5 f6 f7 hI e
    (repeat' split) <;> simp_all
  · rw [e, f5, f3, f2, f0, e]
    clear f0 f1 f2 f3 f4 f5 f6 f7 hI e
    (repeat' split) <;> simp_all
  · rw [e, f6, f0, e]
    clear f0 f1 f2 f3 f4 f5 f6 f7 hI e
    (repeat' split) <;> simp_all
  · rw [e, f7, f4, f1, f0, e]
    clear f0 f1 f2 f3 f4 f5 f6 f7 hI e
    (repeat' split) <;> simp_all
