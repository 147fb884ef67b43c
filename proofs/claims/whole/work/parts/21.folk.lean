/-! the class's Folk: sums over people and debts -/
def y_sum (f : Nat → Int32) : Nat → Int32
  | 0 => 0
  | n + 1 => y_sum f n + f n
theorem y_sum_congr {f g : Nat → Int32} : ∀ {n : Nat}, (∀ k, k < n → f k = g k) → y_sum f n = y_sum g n
  | 0, _ => rfl
  | n + 1, h => by
    show y_sum f n + f n = y_sum g n + g n
    rw [y_sum_congr (fun k hk => h k (by omega)), h n (by omega)]
/-- who else lives near: by houses, clash -/
def y_on (hs : Nat → Int32) (cl : Int32) (o k : Nat) : Int32 := if k ≠ o ∧ (hs k - hs o ≤ cl ∧ -(hs k - hs o) ≤ cl) then 1 else 0
theorem y_others_lp (d n : Nat) (I : sm_I) (J : sm_J) (K : Option Value → sm_H → Prop) {P o : Nat} (hP : I 34 6 = nI P) (hP8 : P ≤ 8) (ho : o < 8) : ∀ (m k : Nat), k + m = P →
    (sm_Ok (d + 1) 11 4 [.ref 34, .int (nI o), .int (y_sum (y_on (I 35) (I 34 8) o) k), .int (nI k)] [] (sm_SH n, I, J) K ↔ K (some (.int (y_sum (y_on (I 35) (I 34 8) o) P))) (sm_SH n, I, J))
  | 0, k, h => by
    have hk : k = P := by omega
    subst hk
    rw [z11_4]
    simp only [z11_0, z11_1, z11_2, z11_3, z11_5, z11_6, z11_9, z11_12, z11_13, z11_14, z11_17, z11_18, z11_19, z11_22, z11_23, z11_24, z11_25, z11_28, z11_31, z11_34, z11_37, z11_40, z11_41, sm_cti, sm_ctr, sm_ctn, sm_nbi, Option.toList_some, Option.toList_none, List.cons_append, List.nil_append, ne_eq, reduceCtorEq, not_false_eq_true, Nat.reduceLeDiff, kc34, hP, Int32.le_refl, if_true]
  | m + 1, k, h => by
    have hk : k < P := by omega
    rw [← y_others_lp d n I J K hP hP8 ho m (k + 1) (by omega), z11_4]
    simp only [z11_0, z11_1, z11_2, z11_3, z11_5, z11_6, z11_9, z11_12, z11_13, z11_14, z11_17, z11_18, z11_19, z11_22, z11_23, z11_24, z11_25, z11_28, z11_31, z11_34, z11_37, z11_40, z11_41, sm_cti, sm_ctr, sm_ctn, sm_nbi, Option.toList_some, Option.toList_none, List.cons_append, List.nil_append, ne_eq, reduceCtorEq, not_false_eq_true, Nat.reduceLeDiff, kc34, kc35, rf34_0, rc34, hP, y_isNear _ _ _ _ _ _ (show k < 8 by omega), y_inN ho (by decide), nI_clamp (show o < 2 ^ 31 by omega), if_neg (nI_ge hk (by omega)), nI_eq (show k < 2 ^ 31 by omega) (show o < 2 ^ 31 by omega), nI_1, y_bit, true_and, y_sum, y_on]
    by_cases h1 : k = o
    · simp only [h1, if_true, if_false, not_true_eq_false, not_false_eq_true, and_true, true_and, and_false, false_and, and_self, or_true, true_or, or_false, false_or, reduceIte, iff_self, Int32.add_zero, y_10]
    · by_cases h2 : I 35 k - I 35 o ≤ I 34 8 ∧ -(I 35 k - I 35 o) ≤ I 34 8
      · simp only [h1, h2, if_true, if_false, not_true_eq_false, not_false_eq_true, and_true, true_and, and_false, false_and, and_self, or_true, true_or, or_false, false_or, reduceIte, iff_self, Int32.add_zero, y_10]
      · simp only [h1, h2, if_true, if_false, not_true_eq_false, not_false_eq_true, and_true, true_and, and_false, false_and, and_self, or_true, true_or, or_false, false_or, reduceIte, iff_self, Int32.add_zero, y_10]
theorem y_othersNear (d n : Nat) (I : sm_I) (J : sm_J) (K : Option Value → sm_H → Prop) {P o : Nat} (hP : I 34 6 = nI P) (hP8 : P ≤ 8) (ho : o < 8) : sm_Ok (d + 1) 11 0 [.ref 34, .int (nI o), .null, .null] [] (sm_SH n, I, J) K ↔ K (some (.int (y_sum (y_on (I 35) (I 34 8) o) P))) (sm_SH n, I, J) := by
  rw [← y_others_lp d n I J K hP hP8 ho P 0 (by omega)]
  simp only [z11_0, z11_1, z11_2, z11_3, z11_5, z11_6, z11_9, z11_12, z11_13, z11_14, z11_17, z11_18, z11_19, z11_22, z11_23, z11_24, z11_25, z11_28, z11_31, z11_34, z11_37, z11_40, z11_41, sm_cti, sm_ctr, sm_ctn, sm_nbi, Option.toList_some, Option.toList_none, List.cons_append, List.nil_append, ne_eq, reduceCtorEq, not_false_eq_true, Nat.reduceLeDiff, y_sum, nI_0]
