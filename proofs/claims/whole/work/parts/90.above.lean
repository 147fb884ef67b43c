/-! both answer alike: above, richest, help -/
/-- what others owe one, less what one owes, by the first debts -/
def clm (a b g : Nat → Nat) (o : Nat) : Nat → Int32
  | 0 => 0
  | k + 1 => if b k = o then clm a b g o k + nI (g (40 + k)) else if a k = o then clm a b g o k - nI (g (40 + k)) else clm a b g o k
theorem clm_s {a b g : Nat → Nat} {o k : Nat} : clm a b g o (k + 1) = if b k = o then clm a b g o k + nI (g (40 + k)) else if a k = o then clm a b g o k - nI (g (40 + k)) else clm a b g o k := rfl
theorem clm_bd {a b g : Nat → Nat} {o : Nat} : ∀ k, k ≤ 12 → (∀ j, j < k → g (40 + j) ≤ 999) → -(999 * (k : Int)) ≤ (clm a b g o k).toInt ∧ (clm a b g o k).toInt ≤ 999 * (k : Int)
  | 0, _, _ => by
    have : (clm a b g o 0).toInt = 0 := rfl
    omega
  | k + 1, hk, hg => by
    obtain ⟨h1, h2⟩ := clm_bd (a := a) (b := b) (g := g) (o := o) k (by omega) (fun j hj => hg j (by omega))
    have h3 := hg k (by omega)
    have e1 := nI_toInt (show g (40 + k) < 2 ^ 31 by omega)
    rw [clm_s]
    split
    · rw [Int32.toInt_add, e1, Int.bmod_eq_of_le (by omega) (by omega)]
      omega
    · split
      · rw [Int32.toInt_sub, e1, Int.bmod_eq_of_le (by omega) (by omega)]
        omega
      · omega
section
variable {P D : Nat} {f a b : Nat → Nat}
theorem c_cl_lp {I : sm_I} (hD : D ≤ 12) (ha : ∀ e, e < D → a e < 8 ∧ b e < 8) (hF : cFo P D f a b I) {q : Nat} (hq : tq q) {g : Nat → Nat} (hT : cTa q g I) {o : Nat} (ho : o < 8) (d n : Nat) (J : sm_J) (K : Option Value → sm_H → Prop) : ∀ (w k : Nat), k + w = D →
    (sm_Ok d 18 5 [.ref 34, .ref q, .int (nI o), .int (clm a b g o k), .int (nI k)] [] (sm_SH n, I, J) K ↔ K (some (.int (clm a b g o D))) (sm_SH n, I, J))
  | 0, k, h => by
    have hk : k = D := by omega
    subst hk
    rw [z18_5]
    simp only [z18_1, z18_2, z18_3, z18_7, z18_8, z18_11, z18_14, z18_15, z18_18, z18_20, z18_21, z18_22, z18_25, z18_26, z18_27, z18_30, z18_32, z18_33, z18_34, z18_35, z18_38, z18_39, z18_42, z18_44, z18_45, z18_46, z18_49, z18_50, z18_51, z18_54, z18_56, z18_57, z18_58, z18_59, z18_62, z18_65, z18_66, sm_cti, sm_ctr, sm_ctn, sm_nbi, Option.toList_some, Option.toList_none, List.cons_append, List.nil_append, ne_eq, reduceCtorEq, not_false_eq_true, Nat.reduceLeDiff, kc34, hF.2.1, Int32.le_refl, if_true, if_false, not_true_eq_false, not_false_eq_true, and_true, true_and, and_false, false_and, and_self, or_true, true_or, or_false, false_or, reduceIte, iff_self, Int32.add_zero, y_10, Classical.not_not]
  | w + 1, k, h => by
    have hk : k < D := by omega
    obtain ⟨E1, E2⟩ := hF.2.2.2.2 k hk
    obtain ⟨a8, b8⟩ := ha k hk
    obtain ⟨k1, k2, k3, k4, k5, k6, k7⟩ := tq_k hq
    have e0 : ¬ nI D ≤ nI k := nI_ge hk (by omega)
    have e3 := hT.2.1 k (by omega)
    have l1 : (nI (b k) = nI o) = (b k = o) := propext (nI_eq (by omega) (by omega))
    have l2 : (nI (a k) = nI o) = (a k = o) := propext (nI_eq (by omega) (by omega))
    have hq0 : (q + 3 = 0) = False := eq_false (by omega)
    rw [← c_cl_lp hD ha hF hq hT ho d n J K w (k + 1) (by omega), z18_5, clm_s]
    by_cases h1 : b k = o
    · have h1' := eq_true h1
      simp only [z18_1, z18_2, z18_3, z18_7, z18_8, z18_11, z18_14, z18_15, z18_18, z18_20, z18_21, z18_22, z18_25, z18_26, z18_27, z18_30, z18_32, z18_33, z18_34, z18_35, z18_38, z18_39, z18_42, z18_44, z18_45, z18_46, z18_49, z18_50, z18_51, z18_54, z18_56, z18_57, z18_58, z18_59, z18_62, z18_65, z18_66, sm_cti, sm_ctr, sm_ctn, sm_nbi, Option.toList_some, Option.toList_none, List.cons_append, List.nil_append, ne_eq, reduceCtorEq, not_false_eq_true, Nat.reduceLeDiff, kc34, kc38, kc39, rf34_3, rf34_4, k1, k4, k7, hq0, hF.2.1, e0, E1, E2, e3, l1, h1', nI_1, y_inN (show k < 12 by omega) (by decide), nI_clamp (show k < 2 ^ 31 by omega), if_true, if_false, not_true_eq_false, not_false_eq_true, and_true, true_and, and_false, false_and, and_self, or_true, true_or, or_false, false_or, reduceIte, iff_self, Int32.add_zero, y_10, Classical.not_not]
    · by_cases h2 : a k = o
      · have h2' := eq_true h2
        simp only [z18_1, z18_2, z18_3, z18_7, z18_8, z18_11, z18_14, z18_15, z18_18, z18_20, z18_21, z18_22, z18_25, z18_26, z18_27, z18_30, z18_32, z18_33, z18_34, z18_35, z18_38, z18_39, z18_42, z18_44, z18_45, z18_46, z18_49, z18_50, z18_51, z18_54, z18_56, z18_57, z18_58, z18_59, z18_62, z18_65, z18_66, sm_cti, sm_ctr, sm_ctn, sm_nbi, Option.toList_some, Option.toList_none, List.cons_append, List.nil_append, ne_eq, reduceCtorEq, not_false_eq_true, Nat.reduceLeDiff, kc34, kc38, kc39, rf34_3, rf34_4, k1, k4, k7, hq0, hF.2.1, e0, E1, E2, e3, l1, l2, h1, h2', nI_1, y_inN (show k < 12 by omega) (by decide), nI_clamp (show k < 2 ^ 31 by omega), if_true, if_false, not_true_eq_false, not_false_eq_true, and_true, true_and, and_false, false_and, and_self, or_true, true_or, or_false, false_or, reduceIte, iff_self, Int32.add_zero, y_10, Classical.not_not]
      · simp only [z18_1, z18_2, z18_3, z18_7, z18_8, z18_11, z18_14, z18_15, z18_18, z18_20, z18_21, z18_22, z18_25, z18_26, z18_27, z18_30, z18_32, z18_33, z18_34, z18_35, z18_38, z18_39, z18_42, z18_44, z18_45, z18_46, z18_49, z18_50, z18_51, z18_54, z18_56, z18_57, z18_58, z18_59, z18_62, z18_65, z18_66, sm_cti, sm_ctr, sm_ctn, sm_nbi, Option.toList_some, Option.toList_none, List.cons_append, List.nil_append, ne_eq, reduceCtorEq, not_false_eq_true, Nat.reduceLeDiff, kc34, kc38, kc39, rf34_3, rf34_4, k1, k4, k7, hq0, hF.2.1, e0, E1, E2, e3, l1, l2, h1, h2, nI_1, y_inN (show k < 12 by omega) (by decide), nI_clamp (show k < 2 ^ 31 by omega), if_true, if_false, not_true_eq_false, not_false_eq_true, and_true, true_and, and_false, false_and, and_self, or_true, true_or, or_false, false_or, reduceIte, iff_self, Int32.add_zero, y_10, Classical.not_not]
theorem bd_ab (hb : bdf P D f a b) : ∀ e, e < D → a e < 8 ∧ b e < 8 := fun e he => by
  have := hb.1
  have := hb.2.2.2 e he
  omega
theorem c_claims {I : sm_I} (hb : bdf P D f a b) (hF : cFo P D f a b I) {q : Nat} (hq : tq q) {g : Nat → Nat} (hT : cTa q g I) {o : Nat} (ho : o < 8) (d n : Nat) (J : sm_J) (K : Option Value → sm_H → Prop) :
    sm_Ok d 18 0 [.ref 34, .ref q, .int (nI o), .null, .null] [] (sm_SH n, I, J) K ↔ K (some (.int (clm a b g o D))) (sm_SH n, I, J) := by
  rw [← c_cl_lp hb.2.1 (bd_ab hb) hF hq hT ho d n J K D 0 (by omega)]
  rw [z18_0]
  simp only [z18_1, z18_2, z18_3, sm_cti, sm_ctr, sm_ctn, sm_nbi, Option.toList_some, Option.toList_none, List.cons_append, List.nil_append, ne_eq, reduceCtorEq, not_false_eq_true, Nat.reduceLeDiff, if_true, if_false, not_true_eq_false, not_false_eq_true, and_true, true_and, and_false, false_and, and_self, or_true, true_or, or_false, false_or, reduceIte, iff_self, Int32.add_zero, y_10, Classical.not_not]
  exact Iff.rfl
theorem m_ab_lp {I : sm_I} (hb : bdf P D f a b) (hM : mFo P D f a b I) {o : Nat} (ho : o < 8) (d n : Nat) (J : sm_J) (K : Option Value → sm_H → Prop) : ∀ (w k : Nat), k + w = D →
    (sm_Ok d 191 4 [.ref 103, .int (nI o), .int (clm a b f o k), .int (nI k)] [] (sm_SH n, I, J) K ↔ K (some (.int (clm a b f o D))) (sm_SH n, I, J))
  | 0, k, h => by
    have hk : k = D := by omega
    subst hk
    rw [z191_4]
    simp only [z191_1, z191_2, z191_3, z191_5, z191_6, z191_9, z191_12, z191_13, z191_14, z191_17, z191_18, z191_19, z191_20, z191_23, z191_24, z191_27, z191_29, z191_30, z191_31, z191_32, z191_35, z191_36, z191_37, z191_38, z191_39, z191_40, z191_43, z191_44, z191_45, z191_46, z191_49, z191_50, z191_53, z191_55, z191_56, z191_57, z191_58, z191_61, z191_62, z191_63, z191_64, z191_67, z191_70, z191_71, sm_cti, sm_ctr, sm_ctn, sm_nbi, Option.toList_some, Option.toList_none, List.cons_append, List.nil_append, ne_eq, reduceCtorEq, not_false_eq_true, Nat.reduceLeDiff, kc103, hM.2.1, Int32.le_refl, if_true, if_false, not_true_eq_false, not_false_eq_true, and_true, true_and, and_false, false_and, and_self, or_true, true_or, or_false, false_or, reduceIte, iff_self, Int32.add_zero, y_10, Classical.not_not]
  | w + 1, k, h => by
    have hk : k < D := by omega
    have hD := hb.2.1
    obtain ⟨E1, E2⟩ := hM.2.2.2 k hk
    obtain ⟨a8, b8⟩ := bd_ab hb k hk
    have hab := (hb.2.2.2 k hk).2.2
    have e0 : ¬ nI D ≤ nI k := nI_ge hk (by omega)
    have e3 := hM.2.2.1 (40 + k) (by omega)
    have a40 : (40 : Int32) + nI k = nI (40 + k) := nI_add 40 k
    have l1 : (nI (b k) = nI o) = (b k = o) := propext (nI_eq (by omega) (by omega))
    have l2 : (nI (a k) = nI o) = (a k = o) := propext (nI_eq (by omega) (by omega))
    rw [← m_ab_lp hb hM ho d n J K w (k + 1) (by omega), z191_4, clm_s]
    by_cases h1 : b k = o
    · have h1' := eq_true h1
      have h2 : ¬ a k = o := fun z => hab (by rw [z, h1])
      simp only [z191_1, z191_2, z191_3, z191_5, z191_6, z191_9, z191_12, z191_13, z191_14, z191_17, z191_18, z191_19, z191_20, z191_23, z191_24, z191_27, z191_29, z191_30, z191_31, z191_32, z191_35, z191_36, z191_37, z191_38, z191_39, z191_40, z191_43, z191_44, z191_45, z191_46, z191_49, z191_50, z191_53, z191_55, z191_56, z191_57, z191_58, z191_61, z191_62, z191_63, z191_64, z191_67, z191_70, z191_71, sm_cti, sm_ctr, sm_ctn, sm_nbi, Option.toList_some, Option.toList_none, List.cons_append, List.nil_append, ne_eq, reduceCtorEq, not_false_eq_true, Nat.reduceLeDiff, kc103, kc104, kc108, kc109, rf103_0, rf103_8, rf103_9, hM.2.1, e0, E1, E2, e3, a40, l1, l2, h1', h2, nI_1, Int32.sub_zero, y_inN (show k < 12 by omega) (by decide), nI_clamp (show k < 2 ^ 31 by omega), y_inN (show 40 + k < 54 by omega) (by decide), nI_clamp (show 40 + k < 2 ^ 31 by omega), if_true, if_false, not_true_eq_false, not_false_eq_true, and_true, true_and, and_false, false_and, and_self, or_true, true_or, or_false, false_or, reduceIte, iff_self, Int32.add_zero, y_10, Classical.not_not]
    · by_cases h2 : a k = o
      · have h2' := eq_true h2
        simp only [z191_1, z191_2, z191_3, z191_5, z191_6, z191_9, z191_12, z191_13, z191_14, z191_17, z191_18, z191_19, z191_20, z191_23, z191_24, z191_27, z191_29, z191_30, z191_31, z191_32, z191_35, z191_36, z191_37, z191_38, z191_39, z191_40, z191_43, z191_44, z191_45, z191_46, z191_49, z191_50, z191_53, z191_55, z191_56, z191_57, z191_58, z191_61, z191_62, z191_63, z191_64, z191_67, z191_70, z191_71, sm_cti, sm_ctr, sm_ctn, sm_nbi, Option.toList_some, Option.toList_none, List.cons_append, List.nil_append, ne_eq, reduceCtorEq, not_false_eq_true, Nat.reduceLeDiff, kc103, kc104, kc108, kc109, rf103_0, rf103_8, rf103_9, hM.2.1, e0, E1, E2, e3, a40, l1, l2, h1, h2', nI_1, Int32.sub_zero, y_inN (show k < 12 by omega) (by decide), nI_clamp (show k < 2 ^ 31 by omega), y_inN (show 40 + k < 54 by omega) (by decide), nI_clamp (show 40 + k < 2 ^ 31 by omega), if_true, if_false, not_true_eq_false, not_false_eq_true, and_true, true_and, and_false, false_and, and_self, or_true, true_or, or_false, false_or, reduceIte, iff_self, Int32.add_zero, y_10, Classical.not_not]
      · simp only [z191_1, z191_2, z191_3, z191_5, z191_6, z191_9, z191_12, z191_13, z191_14, z191_17, z191_18, z191_19, z191_20, z191_23, z191_24, z191_27, z191_29, z191_30, z191_31, z191_32, z191_35, z191_36, z191_37, z191_38, z191_39, z191_40, z191_43, z191_44, z191_45, z191_46, z191_49, z191_50, z191_53, z191_55, z191_56, z191_57, z191_58, z191_61, z191_62, z191_63, z191_64, z191_67, z191_70, z191_71, sm_cti, sm_ctr, sm_ctn, sm_nbi, Option.toList_some, Option.toList_none, List.cons_append, List.nil_append, ne_eq, reduceCtorEq, not_false_eq_true, Nat.reduceLeDiff, kc103, kc104, kc108, kc109, rf103_0, rf103_8, rf103_9, hM.2.1, e0, E1, E2, e3, a40, l1, l2, h1, h2, nI_1, Int32.sub_zero, y_inN (show k < 12 by omega) (by decide), nI_clamp (show k < 2 ^ 31 by omega), y_inN (show 40 + k < 54 by omega) (by decide), nI_clamp (show 40 + k < 2 ^ 31 by omega), if_true, if_false, not_true_eq_false, not_false_eq_true, and_true, true_and, and_false, false_and, and_self, or_true, true_or, or_false, false_or, reduceIte, iff_self, Int32.add_zero, y_10, Classical.not_not]
theorem m_aboveOf {I : sm_I} (hb : bdf P D f a b) (hM : mFo P D f a b I) {o : Nat} (ho : o < 8) (d n : Nat) (J : sm_J) (K : Option Value → sm_H → Prop) :
    sm_Ok d 191 0 [.ref 103, .int (nI o), .null, .null] [] (sm_SH n, I, J) K ↔ K (some (.int (clm a b f o D))) (sm_SH n, I, J) := by
  rw [← m_ab_lp hb hM ho d n J K D 0 (by omega)]
  rw [z191_0]
  simp only [z191_1, z191_2, z191_3, sm_cti, sm_ctr, sm_ctn, sm_nbi, Option.toList_some, Option.toList_none, List.cons_append, List.nil_append, ne_eq, reduceCtorEq, not_false_eq_true, Nat.reduceLeDiff, if_true, if_false, not_true_eq_false, not_false_eq_true, and_true, true_and, and_false, false_and, and_self, or_true, true_or, or_false, false_or, reduceIte, iff_self, Int32.add_zero, y_10, Classical.not_not]
  exact Iff.rfl
/-- what one is worth -/
def wth (a b g : Nat → Nat) (D o : Nat) : Int32 := nI (g (24 + o)) + clm a b g o D
theorem c_worth {I : sm_I} (hb : bdf P D f a b) (hF : cFo P D f a b I) {q : Nat} (hq : tq q) {g : Nat → Nat} (hT : cTa q g I) {o : Nat} (ho : o < 8) (d n : Nat) (J : sm_J) (K : Option Value → sm_H → Prop) :
    sm_Ok (d + 1) 19 0 [.ref 34, .ref q, .int (nI o)] [] (sm_SH n, I, J) K ↔ K (some (.int (wth a b g D o))) (sm_SH n, I, J) := by
  obtain ⟨k1, k2, k3, k4, k5, k6, k7⟩ := tq_k hq
  have hq0 : (q + 1 = 0) = False := eq_false (by omega)
  have e := (hT.1 o ho).1
  unfold wth
  simp only [z19_0, z19_1, z19_4, z19_5, z19_6, z19_7, z19_8, z19_9, z19_12, z19_13, sm_cti, sm_ctr, sm_ctn, sm_nbi, Option.toList_some, Option.toList_none, List.cons_append, List.nil_append, ne_eq, reduceCtorEq, not_false_eq_true, Nat.reduceLeDiff, rc34, k1, k2, k5, hq0, e, c_claims hb hF hq hT ho, y_inN ho (by decide), nI_clamp (show o < 2 ^ 31 by omega), if_true, if_false, not_true_eq_false, not_false_eq_true, and_true, true_and, and_false, false_and, and_self, or_true, true_or, or_false, false_or, reduceIte, iff_self, Int32.add_zero, y_10, Classical.not_not]
/-- the first of those with the most -/
def rch (W : Nat → Int32) : Nat → Option Nat
  | 0 => none
  | k + 1 => match rch W k with
    | none => some k
    | some j => if W k ≤ W j then some j else some k
theorem rch_lt {W : Nat → Int32} : ∀ {k j : Nat}, rch W k = some j → j < k
  | k + 1, j, h => by
    unfold rch at h
    cases e : rch W k with
    | none =>
      rw [e] at h
      cases h
      omega
    | some i =>
      rw [e] at h
      dsimp only at h
      have := rch_lt e
      split at h <;> cases h <;> omega
def ri (o : Option Nat) : Int32 := match o with
  | none => -2
  | some j => nI j
def rm (z : Int32) (W : Nat → Int32) (o : Option Nat) : Int32 := match o with
  | none => z
  | some j => W j
theorem c_ri_lp {I : sm_I} (hb : bdf P D f a b) (hF : cFo P D f a b I) (hT : cTa 40 f I) (d n : Nat) (J : sm_J) (K : Option Value → sm_H → Prop) : ∀ (w k : Nat), k + w = P → ∀ x4 : Value, x4.category = 1 →
    (sm_Ok (d + 2) 96 7 [.ref 26, .int (ri (rch (wth a b f D) k)), .int (rm 0 (wth a b f D) (rch (wth a b f D) k)), .int (nI k), x4] [] (sm_SH n, I, J) K ↔ K (some (.int (ri (rch (wth a b f D) P)))) (sm_SH n, I, J))
  | 0, k, h, x4, hx => by
    have hk : k = P := by omega
    subst hk
    rw [z96_7]
    simp only [z96_2, z96_3, z96_4, z96_5, z96_6, z96_8, z96_9, z96_12, z96_15, z96_18, z96_19, z96_22, z96_23, z96_26, z96_27, z96_30, z96_32, z96_33, z96_35, z96_38, z96_40, z96_41, z96_44, z96_45, z96_46, z96_48, z96_49, z96_52, z96_55, z96_56, sm_cti, sm_ctr, sm_ctn, sm_nbi, Option.toList_some, Option.toList_none, List.cons_append, List.nil_append, ne_eq, reduceCtorEq, not_false_eq_true, Nat.reduceLeDiff, kc26, kc34, rf26_2, hF.1, Int32.le_refl, if_true, if_false, not_true_eq_false, not_false_eq_true, and_true, true_and, and_false, false_and, and_self, or_true, true_or, or_false, false_or, reduceIte, iff_self, Int32.add_zero, y_10, Classical.not_not]
  | w + 1, k, h, x4, hx => by
    have hP := hb.1
    have e0 : ¬ nI P ≤ nI k := nI_ge (show k < P by omega) (by omega)
    have hm2 : ((-2 : Int32) = -2) = True := eq_true rfl
    rw [← c_ri_lp hb hF hT d n J K w (k + 1) (by omega) (.int (wth a b f D k)) rfl, z96_7]
    have hs : rch (wth a b f D) (k + 1) = match rch (wth a b f D) k with
      | none => some k
      | some j => if wth a b f D k ≤ wth a b f D j then some j else some k := rfl
    rw [hs]
    cases hr : rch (wth a b f D) k with
    | none =>
      dsimp only [ri, rm]
      simp only [z96_2, z96_3, z96_4, z96_5, z96_6, z96_8, z96_9, z96_12, z96_15, z96_18, z96_19, z96_22, z96_23, z96_26, z96_27, z96_30, z96_32, z96_33, z96_35, z96_38, z96_40, z96_41, z96_44, z96_45, z96_46, z96_48, z96_49, z96_52, z96_55, z96_56, sm_cti, sm_ctr, sm_ctn, sm_nbi, Option.toList_some, Option.toList_none, List.cons_append, List.nil_append, ne_eq, reduceCtorEq, not_false_eq_true, Nat.reduceLeDiff, kc26, kc34, rc34, rf26_2, rf26_3, hF.1, e0, hx, c_worth hb hF (q := 40) (Or.inl rfl) hT (show k < 8 by omega), hm2, nI_1, if_true, if_false, not_true_eq_false, not_false_eq_true, and_true, true_and, and_false, false_and, and_self, or_true, true_or, or_false, false_or, reduceIte, iff_self, Int32.add_zero, y_10, Classical.not_not]
    | some j =>
      have hj := rch_lt hr
      have hj2 : ¬ nI j = -2 := fun z => by
        have := nI_pos' (show j < 2 ^ 31 by omega)
        rw [z] at this
        exact absurd this (by decide)
      dsimp only [ri, rm]
      by_cases hw : wth a b f D k ≤ wth a b f D j
      · rw [if_pos hw]
        simp only [z96_2, z96_3, z96_4, z96_5, z96_6, z96_8, z96_9, z96_12, z96_15, z96_18, z96_19, z96_22, z96_23, z96_26, z96_27, z96_30, z96_32, z96_33, z96_35, z96_38, z96_40, z96_41, z96_44, z96_45, z96_46, z96_48, z96_49, z96_52, z96_55, z96_56, sm_cti, sm_ctr, sm_ctn, sm_nbi, Option.toList_some, Option.toList_none, List.cons_append, List.nil_append, ne_eq, reduceCtorEq, not_false_eq_true, Nat.reduceLeDiff, kc26, kc34, rc34, rf26_2, rf26_3, hF.1, e0, hx, c_worth hb hF (q := 40) (Or.inl rfl) hT (show k < 8 by omega), hj2, hw, nI_1, if_true, if_false, not_true_eq_false, not_false_eq_true, and_true, true_and, and_false, false_and, and_self, or_true, true_or, or_false, false_or, reduceIte, iff_self, Int32.add_zero, y_10, Classical.not_not]
      · rw [if_neg hw]
        simp only [z96_2, z96_3, z96_4, z96_5, z96_6, z96_8, z96_9, z96_12, z96_15, z96_18, z96_19, z96_22, z96_23, z96_26, z96_27, z96_30, z96_32, z96_33, z96_35, z96_38, z96_40, z96_41, z96_44, z96_45, z96_46, z96_48, z96_49, z96_52, z96_55, z96_56, sm_cti, sm_ctr, sm_ctn, sm_nbi, Option.toList_some, Option.toList_none, List.cons_append, List.nil_append, ne_eq, reduceCtorEq, not_false_eq_true, Nat.reduceLeDiff, kc26, kc34, rc34, rf26_2, rf26_3, hF.1, e0, hx, c_worth hb hF (q := 40) (Or.inl rfl) hT (show k < 8 by omega), hj2, hw, nI_1, if_true, if_false, not_true_eq_false, not_false_eq_true, and_true, true_and, and_false, false_and, and_self, or_true, true_or, or_false, false_or, reduceIte, iff_self, Int32.add_zero, y_10, Classical.not_not]
theorem m_ri_lp {I : sm_I} (hb : bdf P D f a b) (hM : mFo P D f a b I) (d n : Nat) (J : sm_J) (K : Option Value → sm_H → Prop) : ∀ (w k : Nat), k + w = P →
    (sm_Ok (d + 1) 193 5 [.ref 103, .int (ri (rch (wth a b f D) k)), .int (nI k)] [] (sm_SH n, I, J) K ↔ K (some (.int (ri (rch (wth a b f D) P)))) (sm_SH n, I, J))
  | 0, k, h => by
    have hk : k = P := by omega
    subst hk
    rw [z193_5]
    simp only [z193_2, z193_3, z193_4, z193_6, z193_7, z193_10, z193_13, z193_14, z193_17, z193_18, z193_21, z193_23, z193_24, z193_25, z193_26, z193_27, z193_28, z193_31, z193_32, z193_33, z193_36, z193_38, z193_39, z193_40, z193_41, z193_42, z193_43, z193_46, z193_47, z193_50, z193_51, z193_52, z193_55, z193_58, z193_59, sm_cti, sm_ctr, sm_ctn, sm_nbi, Option.toList_some, Option.toList_none, List.cons_append, List.nil_append, ne_eq, reduceCtorEq, not_false_eq_true, Nat.reduceLeDiff, kc103, hM.1, Int32.le_refl, if_true, if_false, not_true_eq_false, not_false_eq_true, and_true, true_and, and_false, false_and, and_self, or_true, true_or, or_false, false_or, reduceIte, iff_self, Int32.add_zero, y_10, Classical.not_not]
  | w + 1, k, h => by
    have hP := hb.1
    have e0 : ¬ nI P ≤ nI k := nI_ge (show k < P by omega) (by omega)
    have hm2 : ((-2 : Int32) < 0) = True := by decide
    have ak : (24 : Int32) + nI k = nI (24 + k) := nI_add 24 k
    have ek := hM.2.2.1 (24 + k) (by omega)
    rw [← m_ri_lp hb hM d n J K w (k + 1) (by omega), z193_5]
    have hs : rch (wth a b f D) (k + 1) = match rch (wth a b f D) k with
      | none => some k
      | some j => if wth a b f D k ≤ wth a b f D j then some j else some k := rfl
    rw [hs]
    cases hr : rch (wth a b f D) k with
    | none =>
      dsimp only [ri]
      simp only [z193_2, z193_3, z193_4, z193_6, z193_7, z193_10, z193_13, z193_14, z193_17, z193_18, z193_21, z193_23, z193_24, z193_25, z193_26, z193_27, z193_28, z193_31, z193_32, z193_33, z193_36, z193_38, z193_39, z193_40, z193_41, z193_42, z193_43, z193_46, z193_47, z193_50, z193_51, z193_52, z193_55, z193_58, z193_59, sm_cti, sm_ctr, sm_ctn, sm_nbi, Option.toList_some, Option.toList_none, List.cons_append, List.nil_append, ne_eq, reduceCtorEq, not_false_eq_true, Nat.reduceLeDiff, kc103, hM.1, e0, hm2, nI_1, if_true, if_false, not_true_eq_false, not_false_eq_true, and_true, true_and, and_false, false_and, and_self, or_true, true_or, or_false, false_or, reduceIte, iff_self, Int32.add_zero, y_10, Classical.not_not]
    | some j =>
      have hj := rch_lt hr
      have hj2 : ¬ nI j < 0 := nI_pos (by omega)
      have aj : (24 : Int32) + nI j = nI (24 + j) := nI_add 24 j
      have ej := hM.2.2.1 (24 + j) (by omega)
      dsimp only [ri]
      by_cases hw : wth a b f D k ≤ wth a b f D j
      · rw [if_pos hw]
        unfold wth at hw
        simp only [z193_2, z193_3, z193_4, z193_6, z193_7, z193_10, z193_13, z193_14, z193_17, z193_18, z193_21, z193_23, z193_24, z193_25, z193_26, z193_27, z193_28, z193_31, z193_32, z193_33, z193_36, z193_38, z193_39, z193_40, z193_41, z193_42, z193_43, z193_46, z193_47, z193_50, z193_51, z193_52, z193_55, z193_58, z193_59, sm_cti, sm_ctr, sm_ctn, sm_nbi, Option.toList_some, Option.toList_none, List.cons_append, List.nil_append, ne_eq, reduceCtorEq, not_false_eq_true, Nat.reduceLeDiff, kc103, kc104, rc103, rf103_0, hM.1, e0, hj2, ak, aj, ek, ej, m_aboveOf hb hM (show k < 8 by omega), m_aboveOf hb hM (show j < 8 by omega), hw, nI_1, y_inN (show 24 + k < 54 by omega) (by decide), nI_clamp (show 24 + k < 2 ^ 31 by omega), y_inN (show 24 + j < 54 by omega) (by decide), nI_clamp (show 24 + j < 2 ^ 31 by omega), if_true, if_false, not_true_eq_false, not_false_eq_true, and_true, true_and, and_false, false_and, and_self, or_true, true_or, or_false, false_or, reduceIte, iff_self, Int32.add_zero, y_10, Classical.not_not]
      · rw [if_neg hw]
        unfold wth at hw
        simp only [z193_2, z193_3, z193_4, z193_6, z193_7, z193_10, z193_13, z193_14, z193_17, z193_18, z193_21, z193_23, z193_24, z193_25, z193_26, z193_27, z193_28, z193_31, z193_32, z193_33, z193_36, z193_38, z193_39, z193_40, z193_41, z193_42, z193_43, z193_46, z193_47, z193_50, z193_51, z193_52, z193_55, z193_58, z193_59, sm_cti, sm_ctr, sm_ctn, sm_nbi, Option.toList_some, Option.toList_none, List.cons_append, List.nil_append, ne_eq, reduceCtorEq, not_false_eq_true, Nat.reduceLeDiff, kc103, kc104, rc103, rf103_0, hM.1, e0, hj2, ak, aj, ek, ej, m_aboveOf hb hM (show k < 8 by omega), m_aboveOf hb hM (show j < 8 by omega), hw, nI_1, y_inN (show 24 + k < 54 by omega) (by decide), nI_clamp (show 24 + k < 2 ^ 31 by omega), y_inN (show 24 + j < 54 by omega) (by decide), nI_clamp (show 24 + j < 2 ^ 31 by omega), if_true, if_false, not_true_eq_false, not_false_eq_true, and_true, true_and, and_false, false_and, and_self, or_true, true_or, or_false, false_or, reduceIte, iff_self, Int32.add_zero, y_10, Classical.not_not]
end
theorem pw_above {n : Nat} {xs : Nat → Int32} {I : sm_I} {J : sm_J} (hI : Inv xs I J) (x : Int32) : pw n I J 95 [.ref 26, .int x] 192 [.ref 103, .int x] (fun I2 J2 => Inv xs I2 J2) := by
  obtain ⟨P, D, B, i1, i2, i3, i4, i5, i6, i7, i8⟩ := id hI
  obtain ⟨f, a, b, hb, cF, cT, mF, hz⟩ := fo_pure i2
  have h8 := hb.1
  intro d K hK
  by_cases h0 : 0 ≤ x ∧ x < nI P
  · obtain ⟨o, ho, rfl⟩ := y_idx (show P < 2 ^ 31 by omega) h0
    simp only [z95_0, z95_1, z95_4, z95_5, z95_8, z95_11, z95_12, z95_15, z95_16, z95_19, z95_20, z95_23, z95_26, z95_28, sm_cti, sm_ctr, sm_ctn, sm_nbi, Option.toList_some, Option.toList_none, List.cons_append, List.nil_append, ne_eq, reduceCtorEq, not_false_eq_true, Nat.reduceLeDiff, kc26, rc34, rf26_2, rf26_3, y_isOne, cF.1, y_bit, h0, c_claims hb cF (q := 40) (Or.inl rfl) cT (show o < 8 by omega), if_true, if_false, not_true_eq_false, not_false_eq_true, and_true, true_and, and_false, false_and, and_self, or_true, true_or, or_false, false_or, reduceIte, iff_self, Int32.add_zero, y_10, Classical.not_not]
    refine hK _ I J (fun K2 h3 => ?_)
    simp only [z192_0, z192_1, z192_2, z192_3, z192_6, z192_9, z192_10, z192_11, z192_14, z192_17, z192_19, sm_cti, sm_ctr, sm_ctn, sm_nbi, Option.toList_some, Option.toList_none, List.cons_append, List.nil_append, ne_eq, reduceCtorEq, not_false_eq_true, Nat.reduceLeDiff, rc103, m_isOneX (show P < 2 ^ 31 by omega) mF.1, y_bit, h0, m_aboveOf hb mF (show o < 8 by omega), if_true, if_false, not_true_eq_false, not_false_eq_true, and_true, true_and, and_false, false_and, and_self, or_true, true_or, or_false, false_or, reduceIte, iff_self, Int32.add_zero, y_10, Classical.not_not]
    exact h3 I J hI
  · simp only [z95_0, z95_1, z95_4, z95_5, z95_8, z95_11, z95_12, z95_15, z95_16, z95_19, z95_20, z95_23, z95_26, z95_28, sm_cti, sm_ctr, sm_ctn, sm_nbi, Option.toList_some, Option.toList_none, List.cons_append, List.nil_append, ne_eq, reduceCtorEq, not_false_eq_true, Nat.reduceLeDiff, kc26, rc34, rf26_2, y_isOne, cF.1, y_bit, h0, if_true, if_false, not_true_eq_false, not_false_eq_true, and_true, true_and, and_false, false_and, and_self, or_true, true_or, or_false, false_or, reduceIte, iff_self, Int32.add_zero, y_10, Classical.not_not]
    refine hK _ I J (fun K2 h3 => ?_)
    simp only [z192_0, z192_1, z192_2, z192_3, z192_6, z192_9, z192_10, z192_11, z192_14, z192_17, z192_19, sm_cti, sm_ctr, sm_ctn, sm_nbi, Option.toList_some, Option.toList_none, List.cons_append, List.nil_append, ne_eq, reduceCtorEq, not_false_eq_true, Nat.reduceLeDiff, rc103, m_isOneX (show P < 2 ^ 31 by omega) mF.1, y_bit, h0, if_true, if_false, not_true_eq_false, not_false_eq_true, and_true, true_and, and_false, false_and, and_self, or_true, true_or, or_false, false_or, reduceIte, iff_self, Int32.add_zero, y_10, Classical.not_not]
    exact h3 I J hI
theorem pw_richest {n : Nat} {xs : Nat → Int32} {I : sm_I} {J : sm_J} (hI : Inv xs I J) : pw n I J 96 [.ref 26, .null, .null, .null, .null] 193 [.ref 103, .null, .null] (fun I2 J2 => Inv xs I2 J2) := by
  obtain ⟨P, D, B, i1, i2, i3, i4, i5, i6, i7, i8⟩ := id hI
  obtain ⟨f, a, b, hb, cF, cT, mF, hz⟩ := fo_pure i2
  have n0 : (0 : Int32) = nI 0 := rfl
  intro d K hK
  rw [z96_0]
  simp only [z96_2, z96_3, z96_4, z96_5, z96_6, sm_cti, sm_ctr, sm_ctn, sm_nbi, Option.toList_some, Option.toList_none, List.cons_append, List.nil_append, ne_eq, reduceCtorEq, not_false_eq_true, Nat.reduceLeDiff, if_true, if_false, not_true_eq_false, not_false_eq_true, and_true, true_and, and_false, false_and, and_self, or_true, true_or, or_false, false_or, reduceIte, iff_self, Int32.add_zero, y_10, Classical.not_not]
  refine (c_ri_lp hb cF cT (d + 198) n J K P 0 (by omega) .null rfl).mpr ?_
  refine hK _ I J (fun K2 h3 => ?_)
  rw [z193_0]
  simp only [z193_2, z193_3, z193_4, sm_cti, sm_ctr, sm_ctn, sm_nbi, Option.toList_some, Option.toList_none, List.cons_append, List.nil_append, ne_eq, reduceCtorEq, not_false_eq_true, Nat.reduceLeDiff, if_true, if_false, not_true_eq_false, not_false_eq_true, and_true, true_and, and_false, false_and, and_self, or_true, true_or, or_false, false_or, reduceIte, iff_self, Int32.add_zero, y_10, Classical.not_not]
  refine (m_ri_lp hb mF (d + 199) n J K2 P 0 (by omega)).mpr ?_
  exact h3 I J hI
