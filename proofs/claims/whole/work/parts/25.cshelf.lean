/-! the class's shelves -/
/-- the first k places of a long row hold v -/
def y_fJ (J : sm_J) (q k : Nat) (v : Int64) : sm_J := fun a b => if a = q ∧ b < k then v else J a b
theorem y_fJ0 (J : sm_J) (q : Nat) (v : Int64) : y_fJ J q 0 v = J := by
  funext a b; simp [y_fJ]
theorem y_fJs (J : sm_J) (q k : Nat) (v : Int64) : sm_uJ (y_fJ J q k v) q k v = y_fJ J q (k + 1) v := by
  funext a b
  unfold sm_uJ y_fJ
  by_cases h1 : a = q
  · by_cases h2 : b = k
    · simp [h1, h2]
    · by_cases h3 : b < k
      · simp [h1, h2, h3, show b < k + 1 by omega]
      · simp [h1, h2, h3, show ¬ b < k + 1 by omega]
  · simp [h1]
theorem y_fill_lp (d n : Nat) (I : sm_I) (J : sm_J) (K : Option Value → sm_H → Prop) {q c : Nat} (hq : sm_kc q = (2, c)) (hc : c < 2 ^ 30) (v : Int64) : ∀ (m k : Nat), k + m = c →
    (sm_Ok d 249 6 [.ref q, .long v, .null, .int (nI k), .int (nI c)] [] (sm_SH n, I, y_fJ J q k v) K ↔ K none (sm_SH n, I, y_fJ J q c v))
  | 0, k, h => by
    have hk : k = c := by omega
    subst hk
    rw [z249_6]
    simp only [z249_0, z249_1, z249_2, z249_3, z249_4, z249_7, z249_9, z249_12, z249_13, z249_14, z249_15, z249_16, z249_19, z249_22, sm_cti, sm_ctr, sm_ctn, sm_nbi, Option.toList_some, Option.toList_none, List.cons_append, List.nil_append, ne_eq, reduceCtorEq, not_false_eq_true, Nat.reduceLeDiff, Int32.le_refl, if_true]
  | m + 1, k, h => by
    have hk : k < c := by omega
    rw [← y_fill_lp d n I J K hq hc v m (k + 1) (by omega), z249_6]
    simp only [z249_0, z249_1, z249_2, z249_3, z249_4, z249_7, z249_9, z249_12, z249_13, z249_14, z249_15, z249_16, z249_19, z249_22, sm_cti, sm_ctr, sm_ctn, sm_nbi, Option.toList_some, Option.toList_none, List.cons_append, List.nil_append, ne_eq, reduceCtorEq, not_false_eq_true, Nat.reduceLeDiff, hq, if_neg (nI_ge hk (by omega)), y_inN hk (by omega), nI_clamp (show k < 2 ^ 31 by omega), nI_1, y_fJs, true_and]
theorem y_fill (d n : Nat) (I : sm_I) (J : sm_J) (K : Option Value → sm_H → Prop) {q c : Nat} (hq : sm_kc q = (2, c)) (hc : c < 2 ^ 30) (h0 : ¬ q = 0) (v : Int64) : sm_Ok d 249 0 [.ref q, .long v, .null, .null, .null] [] (sm_SH n, I, J) K ↔ K none (sm_SH n, I, y_fJ J q c v) := by
  rw [← y_fill_lp d n I J K hq hc v c 0 (by omega), y_fJ0]
  simp only [z249_0, z249_1, z249_2, z249_3, z249_4, z249_7, z249_9, z249_12, z249_13, z249_14, z249_15, z249_16, z249_19, z249_22, sm_cti, sm_ctr, sm_ctn, sm_nbi, Option.toList_some, Option.toList_none, List.cons_append, List.nil_append, ne_eq, reduceCtorEq, not_false_eq_true, Nat.reduceLeDiff, hq, h0, or_true, true_or, nI]
  exact Iff.rfl
theorem y_idx6 {x : Int32} (h : 0 ≤ x ∧ x ≤ 5) : ∃ s : Nat, s < 6 ∧ x = nI s := by
  obtain ⟨k, hk, e⟩ := nI_of2 (M := 5) (n := 5) (by decide) (Int32.not_lt.mpr h.1) h.2
  exact ⟨k, by omega, e⟩
theorem y_sh5 {s : Nat} (hs : s < 6) : (0 : Int32) ≤ nI s ∧ nI s ≤ 5 := ⟨nI_pos' (by omega), nI_le (b := 5) (by omega) (by decide)⟩
theorem y_refPlaceB (d n : Nat) (I : sm_I) (J : sm_J) (K : Option Value → sm_H → Prop) {x i : Int32} (hx : ¬ (0 ≤ x ∧ x ≤ 5)) : sm_Ok (d + 2) 137 0 [.ref 26, .int x, .int i, .null] [] (sm_SH n, I, J) K ↔ K (some (.int (-1))) (sm_SH n, I, J) := by
  simp only [z137_0, z137_1, z137_4, z137_7, z137_8, z137_9, z137_10, z137_13, z137_14, z137_15, z137_16, z137_17, z137_20, z137_23, z137_25, z137_26, z137_27, z137_30, z137_33, z137_35, z137_36, z137_37, z137_38, z137_39, z137_42, z137_45, z137_46, z137_49, z137_51, sm_cti, sm_ctr, sm_ctn, sm_nbi, Option.toList_some, Option.toList_none, List.cons_append, List.nil_append, ne_eq, reduceCtorEq, not_false_eq_true, Nat.reduceLeDiff, y_isShelf, y_bit, hx, if_true, if_false, not_true_eq_false, not_false_eq_true, and_true, true_and, and_false, false_and, and_self, or_true, true_or, or_false, false_or, reduceIte, iff_self, Int32.add_zero, y_10]
theorem y_refPlace (d n : Nat) (I : sm_I) (J : sm_J) (K : Option Value → sm_H → Prop) {s : Nat} (hs : s < 6) (i : Int32) : sm_Ok (d + 2) 137 0 [.ref 26, .int (nI s), .int i, .null] [] (sm_SH n, I, J) K ↔ K (some (.int (if ¬ 0 ≤ I (91 + 2 * s) 1 ∧ I (91 + 2 * s) 2 = -1 then -11 else if I (91 + 2 * s) 2 = -1 then -12 else if 0 ≤ i ∧ i ≤ I (91 + 2 * s) 3 ∧ 1 ≤ I (91 + 2 * s) 3 - i then 0 else -13))) (sm_SH n, I, J) := by
  obtain ⟨k1, k2, k3⟩ := y_shelf hs
  have h01 : (0 : Int32) ≤ 1 := by decide
  simp only [z137_0, z137_1, z137_4, z137_7, z137_8, z137_9, z137_10, z137_13, z137_14, z137_15, z137_16, z137_17, z137_20, z137_23, z137_25, z137_26, z137_27, z137_30, z137_33, z137_35, z137_36, z137_37, z137_38, z137_39, z137_42, z137_45, z137_46, z137_49, z137_51, sm_cti, sm_ctr, sm_ctn, sm_nbi, Option.toList_some, Option.toList_none, List.cons_append, List.nil_append, ne_eq, reduceCtorEq, not_false_eq_true, Nat.reduceLeDiff, kc26, kc90, rf26_12, y_isShelf, y_sh5 hs, y_bit, y_inN hs (by decide), nI_clamp (show s < 2 ^ 31 by omega), k1, sm_rc_of k1, y_isEmpty _ _ _ _ _ k1, y_isRow _ _ _ _ _ k1, y_hasPlaces _ _ _ _ _ k1, h01, if_true, if_false, not_true_eq_false, not_false_eq_true, and_true, true_and, and_false, false_and, and_self, or_true, true_or, or_false, false_or, reduceIte, iff_self, Int32.add_zero, y_10]
  (repeat' split) <;> simp_all
theorem y_tIs (d n : Nat) (I : sm_I) (J : sm_J) (K : Option Value → sm_H → Prop) (x : Int32) : sm_Ok d 67 0 [.ref 87, .int x] [] (sm_SH n, I, J) K ↔ K (some (.int (if 0 ≤ x ∧ x < I 87 1 then 1 else 0))) (sm_SH n, I, J) := by
  simp only [z67_17_0, z67_17_1, z67_0, z67_1, z67_4, z67_5, z67_6, z67_9, z67_12, z67_13, z67_16, z67_17, sm_cti, sm_ctr, sm_ctn, sm_nbi, Option.toList_some, Option.toList_none, List.cons_append, List.nil_append, ne_eq, reduceCtorEq, not_false_eq_true, Nat.reduceLeDiff, kc87, y_lt]
  (repeat' split) <;> simp_all
theorem y_keepB (d n : Nat) (I : sm_I) (J : sm_J) (K : Option Value → sm_H → Prop) {x b : Int32} (hx : ¬ (0 ≤ x ∧ x ≤ 5) ∨ ¬ (b = -1 ∨ (0 ≤ b ∧ b < I 87 1))) : sm_Ok (d + 2) 119 0 [.ref 26, .int x, .int b] [] (sm_SH n, I, J) K ↔ K (some (.int (-1))) (sm_SH n, I, J) := by
  simp only [z119_0, z119_1, z119_4, z119_7, z119_8, z119_9, z119_12, z119_13, z119_16, z119_17, z119_20, z119_23, z119_24, z119_25, z119_26, z119_29, z119_30, z119_31, z119_32, z119_35, z119_36, sm_cti, sm_ctr, sm_ctn, sm_nbi, Option.toList_some, Option.toList_none, List.cons_append, List.nil_append, ne_eq, reduceCtorEq, not_false_eq_true, Nat.reduceLeDiff, kc26, rf26_11, rc87, y_isShelf, y_tIs, y_bit]
  by_cases h1 : (0 : Int32) ≤ x ∧ x ≤ 5
  · have h2 : ¬ (b = -1 ∨ (0 ≤ b ∧ b < I 87 1)) := hx.resolve_left (fun q => q h1)
    have h3 : ¬ b = -1 := fun q => h2 (Or.inl q)
    have h4 : ¬ (0 ≤ b ∧ b < I 87 1) := fun q => h2 (Or.inr q)
    simp only [h1, h3, h4, if_true, if_false, not_true_eq_false, not_false_eq_true, and_true, true_and, and_false, false_and, and_self, or_true, true_or, or_false, false_or, reduceIte, iff_self, Int32.add_zero, y_10]
  · simp only [h1, if_true, if_false, not_true_eq_false, not_false_eq_true, and_true, true_and, and_false, false_and, and_self, or_true, true_or, or_false, false_or, reduceIte, iff_self, Int32.add_zero, y_10]
theorem y_keep (d n : Nat) (I : sm_I) (J : sm_J) (K : Option Value → sm_H → Prop) {s : Nat} (hs : s < 6) {b : Int32} (hb : b = -1 ∨ (0 ≤ b ∧ b < I 87 1)) : sm_Ok (d + 2) 119 0 [.ref 26, .int (nI s), .int b] [] (sm_SH n, I, J) K ↔ K (some (.int 1)) (sm_SH n, sm_uI (sm_uI (sm_uI I (91 + 2 * s) 1 b) (91 + 2 * s) 2 (-1)) (91 + 2 * s) 3 0, J) := by
  obtain ⟨k1, k2, k3⟩ := y_shelf hs
  simp only [z119_0, z119_1, z119_4, z119_7, z119_8, z119_9, z119_12, z119_13, z119_16, z119_17, z119_20, z119_23, z119_24, z119_25, z119_26, z119_29, z119_30, z119_31, z119_32, z119_35, z119_36, sm_cti, sm_ctr, sm_ctn, sm_nbi, Option.toList_some, Option.toList_none, List.cons_append, List.nil_append, ne_eq, reduceCtorEq, not_false_eq_true, Nat.reduceLeDiff, kc26, kc90, rf26_11, rf26_12, rc87, y_isShelf, y_sh5 hs, y_tIs, y_bit, y_inN hs (by decide), nI_clamp (show s < 2 ^ 31 by omega), k1, sm_rc_of k1, y_hold _ _ _ _ _ k1, if_true, if_false, not_true_eq_false, not_false_eq_true, and_true, true_and, and_false, false_and, and_self, or_true, true_or, or_false, false_or, reduceIte, iff_self, Int32.add_zero, y_10]
  by_cases h3 : b = -1
  · simp only [h3, if_true, if_false, not_true_eq_false, not_false_eq_true, and_true, true_and, and_false, false_and, and_self, or_true, true_or, or_false, false_or, reduceIte, iff_self, Int32.add_zero, y_10]
  · simp only [h3, hb.resolve_left h3, if_true, if_false, not_true_eq_false, not_false_eq_true, and_true, true_and, and_false, false_and, and_self, or_true, true_or, or_false, false_or, reduceIte, iff_self, Int32.add_zero, y_10]
/-- how a value is kept in a row of a sort -/
def y_as (t : Int32) (v : Int64) : Int64 := if t = 0 then v.toInt32.toInt8.toInt32.toInt64 else if t = 1 then v.toInt32.toInt16.toInt32.toInt64 else if t = 2 then v.toInt32.toInt64 else if t = 4 then (if v = 0 then 0 else 1) else v
theorem y_write (d n : Nat) (I : sm_I) (J : sm_J) (K : Option Value → sm_H → Prop) {s : Nat} (hs : s < 6) {k : Nat} (hk : k < 60) (v : Int64) : sm_Ok d 56 0 [.ref (91 + 2 * s), .int (nI k), .long v, .null] [] (sm_SH n, I, J) K ↔ K none (sm_SH n, I, sm_uJ J (92 + 2 * s) k (y_as (I (91 + 2 * s) 2) v)) := by
  obtain ⟨k1, k2, k3⟩ := y_shelf hs
  simp only [z56_0, z56_1, z56_4, z56_5, z56_6, z56_9, z56_44, z56_45, z56_46, z56_47, z56_48, z56_51, z56_52, z56_53, z56_54, z56_55, z56_58, z56_59, z56_60, z56_61, z56_64, z56_65, z56_66, z56_67, z56_70, z56_71, z56_74, z56_75, z56_78, z56_79, z56_80, sm_cti, sm_ctr, sm_ctn, sm_nbi, Option.toList_some, Option.toList_none, List.cons_append, List.nil_append, ne_eq, reduceCtorEq, not_false_eq_true, Nat.reduceLeDiff, k1, k2, k3]
  unfold y_as
  generalize I (91 + 2 * s) 2 = t
  by_cases h0 : t = 0
  · simp only [h0, if_true, if_false, not_true_eq_false, not_false_eq_true, and_true, true_and, and_false, false_and, and_self, or_true, true_or, or_false, false_or, reduceIte, iff_self, Int32.add_zero, y_10, z56_0, z56_1, z56_4, z56_5, z56_6, z56_9, z56_44, z56_45, z56_46, z56_47, z56_48, z56_51, z56_52, z56_53, z56_54, z56_55, z56_58, z56_59, z56_60, z56_61, z56_64, z56_65, z56_66, z56_67, z56_70, z56_71, z56_74, z56_75, z56_78, z56_79, z56_80, sm_cti, sm_ctr, sm_ctn, sm_nbi, Option.toList_some, Option.toList_none, List.cons_append, List.nil_append, ne_eq, reduceCtorEq, not_false_eq_true, Nat.reduceLeDiff, k1, k2, k3, y_inN hk (by decide), nI_clamp (show k < 2 ^ 31 by omega)]
  · by_cases h1 : t = 1
    · subst h1
      simp only [h0, if_true, if_false, not_true_eq_false, not_false_eq_true, and_true, true_and, and_false, false_and, and_self, or_true, true_or, or_false, false_or, reduceIte, iff_self, Int32.add_zero, y_10, z56_0, z56_1, z56_4, z56_5, z56_6, z56_9, z56_44, z56_45, z56_46, z56_47, z56_48, z56_51, z56_52, z56_53, z56_54, z56_55, z56_58, z56_59, z56_60, z56_61, z56_64, z56_65, z56_66, z56_67, z56_70, z56_71, z56_74, z56_75, z56_78, z56_79, z56_80, sm_cti, sm_ctr, sm_ctn, sm_nbi, Option.toList_some, Option.toList_none, List.cons_append, List.nil_append, ne_eq, reduceCtorEq, not_false_eq_true, Nat.reduceLeDiff, k1, k2, k3, y_inN hk (by decide), nI_clamp (show k < 2 ^ 31 by omega)]
    · by_cases h2 : t = 2
      · subst h2
        simp only [h0, h1, if_true, if_false, not_true_eq_false, not_false_eq_true, and_true, true_and, and_false, false_and, and_self, or_true, true_or, or_false, false_or, reduceIte, iff_self, Int32.add_zero, y_10, z56_0, z56_1, z56_4, z56_5, z56_6, z56_9, z56_44, z56_45, z56_46, z56_47, z56_48, z56_51, z56_52, z56_53, z56_54, z56_55, z56_58, z56_59, z56_60, z56_61, z56_64, z56_65, z56_66, z56_67, z56_70, z56_71, z56_74, z56_75, z56_78, z56_79, z56_80, sm_cti, sm_ctr, sm_ctn, sm_nbi, Option.toList_some, Option.toList_none, List.cons_append, List.nil_append, ne_eq, reduceCtorEq, not_false_eq_true, Nat.reduceLeDiff, k1, k2, k3, y_inN hk (by decide), nI_clamp (show k < 2 ^ 31 by omega)]
      · by_cases h4 : t = 4
        · subst h4
          simp only [h0, h1, h2, if_true, if_false, not_true_eq_false, not_false_eq_true, and_true, true_and, and_false, false_and, and_self, or_true, true_or, or_false, false_or, reduceIte, iff_self, Int32.add_zero, y_10, z56_0, z56_1, z56_4, z56_5, z56_6, z56_9, z56_44, z56_45, z56_46, z56_47, z56_48, z56_51, z56_52, z56_53, z56_54, z56_55, z56_58, z56_59, z56_60, z56_61, z56_64, z56_65, z56_66, z56_67, z56_70, z56_71, z56_74, z56_75, z56_78, z56_79, z56_80, sm_cti, sm_ctr, sm_ctn, sm_nbi, Option.toList_some, Option.toList_none, List.cons_append, List.nil_append, ne_eq, reduceCtorEq, not_false_eq_true, Nat.reduceLeDiff, k1, k2, k3, y_inN hk (by decide), nI_clamp (show k < 2 ^ 31 by omega), lg_cmp_eq]
          by_cases hv : v = 0 <;> simp only [hv, if_true, if_false, not_true_eq_false, not_false_eq_true, and_true, true_and, and_false, false_and, and_self, or_true, true_or, or_false, false_or, reduceIte, iff_self, Int32.add_zero, y_10]
        · simp only [h0, h1, h2, h4, if_true, if_false, not_true_eq_false, not_false_eq_true, and_true, true_and, and_false, false_and, and_self, or_true, true_or, or_false, false_or, reduceIte, iff_self, Int32.add_zero, y_10, z56_0, z56_1, z56_4, z56_5, z56_6, z56_9, z56_44, z56_45, z56_46, z56_47, z56_48, z56_51, z56_52, z56_53, z56_54, z56_55, z56_58, z56_59, z56_60, z56_61, z56_64, z56_65, z56_66, z56_67, z56_70, z56_71, z56_74, z56_75, z56_78, z56_79, z56_80, sm_cti, sm_ctr, sm_ctn, sm_nbi, Option.toList_some, Option.toList_none, List.cons_append, List.nil_append, ne_eq, reduceCtorEq, not_false_eq_true, Nat.reduceLeDiff, k1, k2, k3, y_inN hk (by decide), nI_clamp (show k < 2 ^ 31 by omega)]
theorem y_putB (d n : Nat) (I : sm_I) (J : sm_J) (K : Option Value → sm_H → Prop) {x i : Int32} (hx : ¬ (0 ≤ x ∧ x ≤ 5)) (v : Int64) : sm_Ok (d + 3) 121 0 [.ref 26, .int x, .int i, .long v, .null, .null] [] (sm_SH n, I, J) K ↔ K (some (.int (-1))) (sm_SH n, I, J) := by
  have hm : ((-1 : Int32) = 0) = False := by decide
  simp only [z121_0, z121_1, z121_2, z121_3, z121_6, z121_8, z121_10, z121_13, z121_15, z121_16, z121_17, z121_20, z121_21, z121_22, z121_23, z121_24, z121_27, z121_28, sm_cti, sm_ctr, sm_ctn, sm_nbi, Option.toList_some, Option.toList_none, List.cons_append, List.nil_append, ne_eq, reduceCtorEq, not_false_eq_true, Nat.reduceLeDiff, kc26, rc26, y_refPlaceB _ _ _ _ _ hx, hm, if_true, if_false, not_true_eq_false, not_false_eq_true, and_true, true_and, and_false, false_and, and_self, or_true, true_or, or_false, false_or, reduceIte, iff_self, Int32.add_zero, y_10]
/-- why a place of a shelf can't be had; 0 -/
def y_why (I : sm_I) (s : Nat) (i : Int32) : Int32 := if ¬ 0 ≤ I (91 + 2 * s) 1 ∧ I (91 + 2 * s) 2 = -1 then -11 else if I (91 + 2 * s) 2 = -1 then -12 else if 0 ≤ i ∧ i ≤ I (91 + 2 * s) 3 ∧ 1 ≤ I (91 + 2 * s) 3 - i then 0 else -13
theorem y_put (d n : Nat) (I : sm_I) (J : sm_J) (K : Option Value → sm_H → Prop) {s : Nat} (hs : s < 6) {i : Int32} (hi : y_why I s i = 0 → ∃ k : Nat, k < 60 ∧ i = nI k) (v : Int64) : sm_Ok (d + 3) 121 0 [.ref 26, .int (nI s), .int i, .long v, .null, .null] [] (sm_SH n, I, J) K ↔ (if y_why I s i = 0 then K (some (.int 1)) (sm_SH n, I, sm_uJ J (92 + 2 * s) i.toNatClampNeg (y_as (I (91 + 2 * s) 2) v)) else K (some (.int (y_why I s i))) (sm_SH n, I, J)) := by
  obtain ⟨k1, k2, k3⟩ := y_shelf hs
  have hr := y_refPlace (d := d) (n := n) (I := I) (J := J) (hs := hs) (i := i)
  by_cases hw : y_why I s i = 0
  · obtain ⟨k, hk, rfl⟩ := hi hw
    rw [if_pos hw]
    unfold y_why at hw
    simp only [z121_0, z121_1, z121_2, z121_3, z121_6, z121_8, z121_10, z121_13, z121_15, z121_16, z121_17, z121_20, z121_21, z121_22, z121_23, z121_24, z121_27, z121_28, sm_cti, sm_ctr, sm_ctn, sm_nbi, Option.toList_some, Option.toList_none, List.cons_append, List.nil_append, ne_eq, reduceCtorEq, not_false_eq_true, Nat.reduceLeDiff, kc26, kc90, rc26, rf26_12, y_refPlace _ _ _ _ _ hs, hw, if_true, if_false, not_true_eq_false, not_false_eq_true, and_true, true_and, and_false, false_and, and_self, or_true, true_or, or_false, false_or, reduceIte, iff_self, Int32.add_zero, y_10, y_inN hs (by decide), nI_clamp (show s < 2 ^ 31 by omega), nI_clamp (show k < 2 ^ 31 by omega), k1, sm_rc_of k1, y_write _ _ _ _ _ hs hk]
  · rw [if_neg hw]
    unfold y_why at hw ⊢
    simp only [z121_0, z121_1, z121_2, z121_3, z121_6, z121_8, z121_10, z121_13, z121_15, z121_16, z121_17, z121_20, z121_21, z121_22, z121_23, z121_24, z121_27, z121_28, sm_cti, sm_ctr, sm_ctn, sm_nbi, Option.toList_some, Option.toList_none, List.cons_append, List.nil_append, ne_eq, reduceCtorEq, not_false_eq_true, Nat.reduceLeDiff, kc26, rc26, y_refPlace _ _ _ _ _ hs, hw, if_true, if_false, not_true_eq_false, not_false_eq_true, and_true, true_and, and_false, false_and, and_self, or_true, true_or, or_false, false_or, reduceIte, iff_self, Int32.add_zero, y_10]
