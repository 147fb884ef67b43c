/-! both answer alike: debts -/
section
variable {P : Nat}
theorem c_owe1 {I : sm_I} (hP : I 34 6 = nI P) {x y s : Int32} (h : owe P x y s) (d n : Nat) (J : sm_J) (K : Option Value → sm_H → Prop) : sm_Ok (d + 1) 129 0 [.ref 26, .int x, .int y, .int s] [] (sm_SH n, I, J) K ↔ K (some (.int 1)) (sm_SH n, I, J) := by
  rw [c_canOwe hP]
  exact ⟨fun z => z.elim (fun z => z.2) (fun z => absurd h z.1), fun z => Or.inl ⟨h, z⟩⟩
theorem c_owe0 {I : sm_I} (hP : I 34 6 = nI P) {x y s : Int32} (h : ¬ owe P x y s) (d n : Nat) (J : sm_J) (K : Option Value → sm_H → Prop) : sm_Ok (d + 1) 129 0 [.ref 26, .int x, .int y, .int s] [] (sm_SH n, I, J) K ↔ K (some (.int 0)) (sm_SH n, I, J) := by
  rw [c_canOwe hP]
  exact ⟨fun z => z.elim (fun z => absurd z.1 h) (fun z => z.2), fun z => Or.inr ⟨h, z⟩⟩
theorem m_owe1 {I : sm_I} (hP2 : P < 2 ^ 31) (hP : I 103 6 = nI P) {x y s : Int32} (h : owe P x y s) (d n : Nat) (J : sm_J) (K : Option Value → sm_H → Prop) : sm_Ok (d + 2) 158 0 [.ref 103, .long x.toInt64, .null, .long y.toInt64, .null, .long s.toInt64, .null] [] (sm_SH n, I, J) K ↔ K (some (.int 1)) (sm_SH n, I, J) := by
  rw [m_mayCome hP2 hP]
  exact ⟨fun z => z.elim (fun z => z.2) (fun z => absurd h z.1), fun z => Or.inl ⟨h, z⟩⟩
theorem m_owe0 {I : sm_I} (hP2 : P < 2 ^ 31) (hP : I 103 6 = nI P) {x y s : Int32} (h : ¬ owe P x y s) (d n : Nat) (J : sm_J) (K : Option Value → sm_H → Prop) : sm_Ok (d + 2) 158 0 [.ref 103, .long x.toInt64, .null, .long y.toInt64, .null, .long s.toInt64, .null] [] (sm_SH n, I, J) K ↔ K (some (.int 0)) (sm_SH n, I, J) := by
  rw [m_mayCome hP2 hP]
  exact ⟨fun z => z.elim (fun z => absurd z.1 h) (fun z => z.2), fun z => Or.inr ⟨h, z⟩⟩
abbrev dbs := Nat × (Nat → Nat) × (Nat → Nat) × (Nat → Nat)
def oweD (P D : Nat) (x y s : Int32) : Decidable (D < 12 ∧ owe P x y s) := by
  unfold owe
  exact instDecidableAnd
def dbn (S : dbs) (x y s : Int32) : dbs := (S.1 + 1, fv S.2.1 (40 + S.1) s.toNatClampNeg, fv S.2.2.1 S.1 x.toNatClampNeg, fv S.2.2.2 S.1 y.toNatClampNeg)
def gad (P : Nat) (el : Nat → Int32) (q : Nat) : Nat → Nat → dbs → Nat × dbs
  | 0, i, S => (i, S)
  | w + 1, i, S => @ite _ (S.1 < 12 ∧ owe P (el (q + 3 * i)) (el (q + 3 * i + 1)) (el (q + 3 * i + 2))) (oweD _ _ _ _ _) (gad P el q w (i + 1) (dbn S (el (q + 3 * i)) (el (q + 3 * i + 1)) (el (q + 3 * i + 2)))) (i, S)
def dbk (P : Nat) (S : dbs) : Prop := bdf P S.1 S.2.1 S.2.2.1 S.2.2.2 ∧ ∀ p, P ≤ p → p < 8 → S.2.1 (32 + p) = 0
theorem dbn_ok {S : dbs} (h : dbk P S) (hD : S.1 < 12) {x y s : Int32} (ho : owe P x y s) : dbk P (dbn S x y s) ∧ x = nI x.toNatClampNeg ∧ y = nI y.toNatClampNeg ∧ s = nI s.toNatClampNeg := by
  obtain ⟨x', y', s', rfl, rfl, rfl, hx, hy, hxy, hs⟩ := owe_n h.1.1 ho
  have := h.1.1
  unfold dbn
  rw [nI_clamp (by omega), nI_clamp (by omega), nI_clamp (by omega)]
  refine ⟨⟨bdf_add h.1 hD hx hy hxy hs, fun p p1 p2 => ?_⟩, rfl, rfl, rfl⟩
  show fv S.2.1 (40 + S.1) s' (32 + p) = 0
  unfold fv
  rw [if_neg (by omega)]
  exact h.2 p p1 p2
theorem gad_ok (el : Nat → Int32) (q : Nat) : ∀ (w i : Nat) (S : dbs), dbk P S → dbk P (gad P el q w i S).2 ∧ S.1 ≤ (gad P el q w i S).2.1
  | 0, i, S, h => ⟨h, Nat.le_refl _⟩
  | w + 1, i, S, h => by
    unfold gad
    split
    · rename_i hc
      have := gad_ok el q w (i + 1) _ (dbn_ok h hc.1 hc.2).1
      refine ⟨this.1, Nat.le_trans ?_ this.2⟩
      unfold dbn
      omega
    · exact ⟨h, Nat.le_refl _⟩
section
variable {s t m : Nat} {el : Nat → Int32} {I : sm_I} {J : sm_J}
theorem c_debtF1 (hR : rowb s t m el I J) (hP : I 34 6 = nI P) {D : Nat} (h7 : I 34 7 = nI D) (hD : D < 12) {j : Nat} (hj : j + 2 < 60) (ho : owe P (el j) (el (j + 1)) (el (j + 2))) (d n : Nat) (K : Option Value → sm_H → Prop) : sm_Ok (d + 2) 131 0 [.ref 26, .ref (91 + 2 * s), .int (nI j), .null, .null, .null] [] (sm_SH n, I, J) K ↔ K (some (.int 1)) (sm_SH n, cAd I D (el j) (el (j + 1)) (el (j + 2)), J) := by
  obtain ⟨k1, k2, k3⟩ := y_shelf hR.1
  have hE := hR.2.2.2.2.2.2.2
  have e12 : ¬ (12 : Int32) ≤ nI D := fun z => absurd ((nI_ltI (b := 12) (by omega) (by decide)).mpr hD) (Int32.not_lt.mpr z)
  have a1 : nI j + 1 = nI (j + 1) := nI_add j 1
  have a2 : nI j + 2 = nI (j + 2) := nI_add j 2
  simp only [z131_55_0, z131_55_1, z131_67_0, z131_67_1, z131_0, z131_1, z131_4, z131_5, z131_6, z131_7, z131_8, z131_9, z131_12, z131_13, z131_14, z131_15, z131_16, z131_17, z131_19, z131_20, z131_23, z131_24, z131_25, z131_26, z131_27, z131_28, z131_30, z131_31, z131_34, z131_37, z131_39, z131_42, z131_43, z131_44, z131_46, z131_48, z131_51, z131_54, z131_55, z131_56, z131_57, z131_58, z131_60, z131_62, z131_65, z131_66, z131_67, sm_cti, sm_ctr, sm_ctn, sm_nbi, Option.toList_some, Option.toList_none, List.cons_append, List.nil_append, ne_eq, reduceCtorEq, not_false_eq_true, Nat.reduceLeDiff, kc26, kc34, rc26, rf26_2, k1, k2, k3, sm_rc_of k1, a1, a2, y_inN (show j < 60 by omega) (by decide), y_inN (show j + 1 < 60 by omega) (by decide), y_inN hj (by decide), nI_clamp (show j < 2 ^ 31 by omega), nI_clamp (show j + 1 < 2 ^ 31 by omega), nI_clamp (show j + 2 < 2 ^ 31 by omega), (hE j (by omega)).1, (hE (j + 1) (by omega)).1, (hE (j + 2) (by omega)).1, t64, h7, e12, c_owe1 hP ho, c_addDebt hD h7, if_true, if_false, not_true_eq_false, not_false_eq_true, and_true, true_and, and_false, false_and, and_self, or_true, true_or, or_false, false_or, reduceIte, iff_self, Int32.add_zero, y_10, Classical.not_not]
theorem c_debtF0 (hR : rowb s t m el I J) (hP : I 34 6 = nI P) {D : Nat} (h7 : I 34 7 = nI D) (hD : D ≤ 12) {j : Nat} (hj : j + 2 < 60) (ho : ¬ (D < 12 ∧ owe P (el j) (el (j + 1)) (el (j + 2)))) (d n : Nat) (K : Option Value → sm_H → Prop) : sm_Ok (d + 2) 131 0 [.ref 26, .ref (91 + 2 * s), .int (nI j), .null, .null, .null] [] (sm_SH n, I, J) K ↔ K (some (.int 0)) (sm_SH n, I, J) := by
  obtain ⟨k1, k2, k3⟩ := y_shelf hR.1
  have hE := hR.2.2.2.2.2.2.2
  have a1 : nI j + 1 = nI (j + 1) := nI_add j 1
  have a2 : nI j + 2 = nI (j + 2) := nI_add j 2
  by_cases h12 : D < 12
  · have e12 : ¬ (12 : Int32) ≤ nI D := fun z => absurd ((nI_ltI (b := 12) (by omega) (by decide)).mpr h12) (Int32.not_lt.mpr z)
    have ho' : ¬ owe P (el j) (el (j + 1)) (el (j + 2)) := fun z => ho ⟨h12, z⟩
    simp only [z131_55_0, z131_55_1, z131_67_0, z131_67_1, z131_0, z131_1, z131_4, z131_5, z131_6, z131_7, z131_8, z131_9, z131_12, z131_13, z131_14, z131_15, z131_16, z131_17, z131_19, z131_20, z131_23, z131_24, z131_25, z131_26, z131_27, z131_28, z131_30, z131_31, z131_34, z131_37, z131_39, z131_42, z131_43, z131_44, z131_46, z131_48, z131_51, z131_54, z131_55, z131_56, z131_57, z131_58, z131_60, z131_62, z131_65, z131_66, z131_67, sm_cti, sm_ctr, sm_ctn, sm_nbi, Option.toList_some, Option.toList_none, List.cons_append, List.nil_append, ne_eq, reduceCtorEq, not_false_eq_true, Nat.reduceLeDiff, kc26, kc34, rc26, rf26_2, k1, k2, k3, sm_rc_of k1, a1, a2, y_inN (show j < 60 by omega) (by decide), y_inN (show j + 1 < 60 by omega) (by decide), y_inN hj (by decide), nI_clamp (show j < 2 ^ 31 by omega), nI_clamp (show j + 1 < 2 ^ 31 by omega), nI_clamp (show j + 2 < 2 ^ 31 by omega), (hE j (by omega)).1, (hE (j + 1) (by omega)).1, (hE (j + 2) (by omega)).1, t64, h7, e12, c_owe0 hP ho', if_true, if_false, not_true_eq_false, not_false_eq_true, and_true, true_and, and_false, false_and, and_self, or_true, true_or, or_false, false_or, reduceIte, iff_self, Int32.add_zero, y_10, Classical.not_not]
  · have e12 : (12 : Int32) ≤ nI D := (nI_leI (a := 12) (by decide) (by omega)).mpr (by omega)
    simp only [z131_55_0, z131_55_1, z131_67_0, z131_67_1, z131_0, z131_1, z131_4, z131_5, z131_6, z131_7, z131_8, z131_9, z131_12, z131_13, z131_14, z131_15, z131_16, z131_17, z131_19, z131_20, z131_23, z131_24, z131_25, z131_26, z131_27, z131_28, z131_30, z131_31, z131_34, z131_37, z131_39, z131_42, z131_43, z131_44, z131_46, z131_48, z131_51, z131_54, z131_55, z131_56, z131_57, z131_58, z131_60, z131_62, z131_65, z131_66, z131_67, sm_cti, sm_ctr, sm_ctn, sm_nbi, Option.toList_some, Option.toList_none, List.cons_append, List.nil_append, ne_eq, reduceCtorEq, not_false_eq_true, Nat.reduceLeDiff, kc26, kc34, rc26, rf26_2, k1, k2, k3, sm_rc_of k1, a1, a2, y_inN (show j < 60 by omega) (by decide), y_inN (show j + 1 < 60 by omega) (by decide), y_inN hj (by decide), nI_clamp (show j < 2 ^ 31 by omega), nI_clamp (show j + 1 < 2 ^ 31 by omega), nI_clamp (show j + 2 < 2 ^ 31 by omega), (hE j (by omega)).1, (hE (j + 1) (by omega)).1, (hE (j + 2) (by omega)).1, t64, h7, e12, if_true, if_false, not_true_eq_false, not_false_eq_true, and_true, true_and, and_false, false_and, and_self, or_true, true_or, or_false, false_or, reduceIte, iff_self, Int32.add_zero, y_10, Classical.not_not]
end
theorem c_debts_lp {s t m : Nat} {el : Nat → Int32} {J : sm_J} {q C L : Nat} (hC : C ≤ 12) (hL : q + 3 * L ≤ 60) (d n : Nat) (K : Option Value → sm_H → Prop) : ∀ (w i : Nat) (S : dbs) (I : sm_I), rowb s t m el I J → i + w = min C L → dbk P S → cFo P S.1 S.2.1 S.2.2.1 S.2.2.2 I → cTa 40 S.2.1 I →
    (∀ I', (∀ x c, ¬ (x = 38 ∨ x = 39 ∨ x = 34 ∨ x = 43) → I' x c = I x c) → cFo P (gad P el q w i S).2.1 (gad P el q w i S).2.2.1 (gad P el q w i S).2.2.2.1 (gad P el q w i S).2.2.2.2 I' → cTa 40 (gad P el q w i S).2.2.1 I' → K (some (.int (nI (gad P el q w i S).1))) (sm_SH n, I', J)) →
    sm_Ok (d + 3) 86 81 [.ref 26, .int (nI s), .int (nI q), .int (nI C), .ref (91 + 2 * s), .int (nI i), .int (nI L)] [] (sm_SH n, I, J) K
  | 0, i, S, I, hR, hi, hS, hF, hT, hK => by
    have e1 : (nI C ≤ nI i) = (C ≤ i) := propext (nI_leI (by omega) (by omega))
    have e2 : (nI L ≤ nI i) = (L ≤ i) := propext (nI_leI (by omega) (by omega))
    rw [z86_81]
    by_cases h1 : C ≤ i
    · simp only [z86_0, z86_1, z86_4, z86_7, z86_8, z86_9, z86_12, z86_13, z86_15, z86_18, z86_19, z86_20, z86_21, z86_24, z86_25, z86_26, z86_28, z86_30, z86_33, z86_36, z86_37, z86_38, z86_40, z86_41, z86_44, z86_47, z86_49, z86_50, z86_51, z86_53, z86_54, z86_57, z86_58, z86_60, z86_63, z86_66, z86_68, z86_71, z86_72, z86_73, z86_74, z86_75, z86_78, z86_79, z86_83, z86_84, z86_87, z86_89, z86_91, z86_94, z86_95, z86_97, z86_98, z86_99, z86_101, z86_102, z86_103, z86_106, z86_109, z86_112, z86_115, z86_117, sm_cti, sm_ctr, sm_ctn, sm_nbi, Option.toList_some, Option.toList_none, List.cons_append, List.nil_append, ne_eq, reduceCtorEq, not_false_eq_true, Nat.reduceLeDiff, e1, h1, if_true, if_false, not_true_eq_false, not_false_eq_true, and_true, true_and, and_false, false_and, and_self, or_true, true_or, or_false, false_or, reduceIte, iff_self, Int32.add_zero, y_10, Classical.not_not]
      exact hK I (fun _ _ _ => rfl) hF hT
    · have h2 : L ≤ i := by omega
      simp only [z86_0, z86_1, z86_4, z86_7, z86_8, z86_9, z86_12, z86_13, z86_15, z86_18, z86_19, z86_20, z86_21, z86_24, z86_25, z86_26, z86_28, z86_30, z86_33, z86_36, z86_37, z86_38, z86_40, z86_41, z86_44, z86_47, z86_49, z86_50, z86_51, z86_53, z86_54, z86_57, z86_58, z86_60, z86_63, z86_66, z86_68, z86_71, z86_72, z86_73, z86_74, z86_75, z86_78, z86_79, z86_83, z86_84, z86_87, z86_89, z86_91, z86_94, z86_95, z86_97, z86_98, z86_99, z86_101, z86_102, z86_103, z86_106, z86_109, z86_112, z86_115, z86_117, sm_cti, sm_ctr, sm_ctn, sm_nbi, Option.toList_some, Option.toList_none, List.cons_append, List.nil_append, ne_eq, reduceCtorEq, not_false_eq_true, Nat.reduceLeDiff, e1, h1, e2, h2, if_true, if_false, not_true_eq_false, not_false_eq_true, and_true, true_and, and_false, false_and, and_self, or_true, true_or, or_false, false_or, reduceIte, iff_self, Int32.add_zero, y_10, Classical.not_not]
      exact hK I (fun _ _ _ => rfl) hF hT
  | w + 1, i, S, I, hR, hi, hS, hF, hT, hK => by
    have hD := hS.1.2.1
    have e1 : (nI C ≤ nI i) = False := propext ⟨fun z => by have := (nI_leI (by omega) (by omega)).mp z; omega, fun z => z.elim⟩
    have e2 : (nI L ≤ nI i) = False := propext ⟨fun z => by have := (nI_leI (by omega) (by omega)).mp z; omega, fun z => z.elim⟩
    have a3 : nI q + 3 * nI i = nI (q + 3 * i) := by rw [show (3 : Int32) = nI 3 from rfl, nI_mul, nI_add]
    obtain ⟨k1, k2, k3⟩ := y_shelf hR.1
    rw [z86_81]
    by_cases hc : S.1 < 12 ∧ owe P (el (q + 3 * i)) (el (q + 3 * i + 1)) (el (q + 3 * i + 2))
    · obtain ⟨o1, ox, oy, os⟩ := dbn_ok hS hc.1 hc.2
      have e : gad P el q (w + 1) i S = gad P el q w (i + 1) (dbn S (el (q + 3 * i)) (el (q + 3 * i + 1)) (el (q + 3 * i + 2))) := by
        conv => lhs; unfold gad
        rw [if_pos hc]
      rw [e] at hK
      simp only [z86_0, z86_1, z86_4, z86_7, z86_8, z86_9, z86_12, z86_13, z86_15, z86_18, z86_19, z86_20, z86_21, z86_24, z86_25, z86_26, z86_28, z86_30, z86_33, z86_36, z86_37, z86_38, z86_40, z86_41, z86_44, z86_47, z86_49, z86_50, z86_51, z86_53, z86_54, z86_57, z86_58, z86_60, z86_63, z86_66, z86_68, z86_71, z86_72, z86_73, z86_74, z86_75, z86_78, z86_79, z86_83, z86_84, z86_87, z86_89, z86_91, z86_94, z86_95, z86_97, z86_98, z86_99, z86_101, z86_102, z86_103, z86_106, z86_109, z86_112, z86_115, z86_117, sm_cti, sm_ctr, sm_ctn, sm_nbi, Option.toList_some, Option.toList_none, List.cons_append, List.nil_append, ne_eq, reduceCtorEq, not_false_eq_true, Nat.reduceLeDiff, rc26, e1, e2, a3, c_debtF1 hR hF.1 hF.2.1 hc.1 (show q + 3 * i + 2 < 60 by omega) hc.2, nI_1, if_true, if_false, not_true_eq_false, not_false_eq_true, and_true, true_and, and_false, false_and, and_self, or_true, true_or, or_false, false_or, reduceIte, iff_self, Int32.add_zero, y_10, Classical.not_not]
      have A := cAd_ok hF hT hc.1 (el (q + 3 * i)).toNatClampNeg (el (q + 3 * i + 1)).toNatClampNeg (el (q + 3 * i + 2)).toNatClampNeg
      rw [← ox, ← oy, ← os] at A
      refine c_debts_lp hC hL d n K w (i + 1) _ _ (rowb_f hR (fun x c hx => cAd_f _ _ _ _ _ (by omega))) (by omega) o1 A.1 A.2 (fun I' w1 w2 w3 => hK I' (fun x c hx => by rw [w1 x c hx, cAd_f _ _ _ _ _ hx]) w2 w3)
    · have e : gad P el q (w + 1) i S = (i, S) := by
        conv => lhs; unfold gad
        rw [if_neg hc]
      rw [e] at hK
      simp only [z86_0, z86_1, z86_4, z86_7, z86_8, z86_9, z86_12, z86_13, z86_15, z86_18, z86_19, z86_20, z86_21, z86_24, z86_25, z86_26, z86_28, z86_30, z86_33, z86_36, z86_37, z86_38, z86_40, z86_41, z86_44, z86_47, z86_49, z86_50, z86_51, z86_53, z86_54, z86_57, z86_58, z86_60, z86_63, z86_66, z86_68, z86_71, z86_72, z86_73, z86_74, z86_75, z86_78, z86_79, z86_83, z86_84, z86_87, z86_89, z86_91, z86_94, z86_95, z86_97, z86_98, z86_99, z86_101, z86_102, z86_103, z86_106, z86_109, z86_112, z86_115, z86_117, sm_cti, sm_ctr, sm_ctn, sm_nbi, Option.toList_some, Option.toList_none, List.cons_append, List.nil_append, ne_eq, reduceCtorEq, not_false_eq_true, Nat.reduceLeDiff, rc26, e1, e2, a3, c_debtF0 hR hF.1 hF.2.1 hD (show q + 3 * i + 2 < 60 by omega) hc, if_true, if_false, not_true_eq_false, not_false_eq_true, and_true, true_and, and_false, false_and, and_self, or_true, true_or, or_false, false_or, reduceIte, iff_self, Int32.add_zero, y_10, Classical.not_not]
      exact hK I (fun _ _ _ => rfl) hF hT
theorem dbt_a : ∀ (m : Fin 61) (k : Fin 13), (nI m.1 - 3 - 3 * nI k.1).toInt = (m.1 : Int) - 3 - 3 * k.1 := by decide +kernel
theorem dbt_b {q m k : Nat} (hq : q < 2 ^ 31) (hm : m ≤ 60) (hk : k ≤ 12) : (nI m - 3 - 3 * nI k < nI q) = ¬ (q + 3 * k + 3 ≤ m) := by
  have := dbt_a ⟨m, by omega⟩ ⟨k, by omega⟩
  apply propext
  rw [Int32.lt_iff_toInt_lt, this, nI_toInt hq]
  dsimp only
  omega
theorem m_debts_0 (d n : Nat) (I : sm_I) (J : sm_J) (K : Option Value → sm_H → Prop) (s q C i : Int32) (x6 : Value) : sm_Ok (d + 3) 161 69 [.ref 103, .int s, .int q, .int C, .int i, .int 0, x6] [] (sm_SH n, I, J) K ↔ K (some (.int i)) (sm_SH n, I, J) := by
  rw [z161_69]
  simp only [z161_0, z161_1, z161_4, z161_7, z161_8, z161_9, z161_10, z161_13, z161_16, z161_19, z161_20, z161_21, z161_22, z161_25, z161_26, z161_27, z161_30, z161_31, z161_34, z161_35, z161_36, z161_38, z161_41, z161_43, z161_44, z161_45, z161_47, z161_48, z161_51, z161_52, z161_53, z161_55, z161_58, z161_59, z161_62, z161_63, z161_66, z161_67, z161_71, z161_74, z161_76, z161_77, z161_80, z161_81, z161_82, z161_85, z161_86, z161_87, z161_88, z161_89, z161_90, z161_92, z161_93, z161_94, z161_97, z161_98, z161_101, z161_103, z161_106, z161_107, z161_110, z161_111, z161_113, z161_115, z161_116, z161_117, z161_118, z161_119, z161_120, z161_122, z161_123, z161_124, z161_126, z161_128, z161_131, z161_132, z161_133, z161_136, z161_138, z161_139, z161_140, z161_143, z161_145, z161_146, z161_147, z161_148, z161_149, z161_152, z161_154, z161_155, z161_156, z161_157, z161_160, z161_163, z161_164, z161_167, z161_168, z161_170, z161_172, z161_175, z161_176, z161_177, z161_180, z161_182, z161_183, z161_184, z161_185, z161_188, z161_190, z161_191, z161_192, z161_193, z161_194, z161_195, z161_198, z161_200, z161_201, z161_202, z161_203, z161_204, z161_207, z161_210, z161_213, z161_215, sm_cti, sm_ctr, sm_ctn, sm_nbi, Option.toList_some, Option.toList_none, List.cons_append, List.nil_append, ne_eq, reduceCtorEq, not_false_eq_true, Nat.reduceLeDiff, if_true, if_false, not_true_eq_false, not_false_eq_true, and_true, true_and, and_false, false_and, and_self, or_true, true_or, or_false, false_or, reduceIte, iff_self, Int32.add_zero, y_10, Classical.not_not]
theorem m_debts_lp {s t m : Nat} {el : Nat → Int32} {J : sm_J} {q C L : Nat} (hC : C ≤ 12) (hP8 : P ≤ 8) (hq : q < 2 ^ 31) (hL : L = (m - q) / 3) (d n : Nat) (K : Option Value → sm_H → Prop) : ∀ (w i : Nat) (S : dbs) (I : sm_I) (x6 : Value), rowb s t m el I J → i + w = min C L → dbk P S → mFo P S.1 S.2.1 S.2.2.1 S.2.2.2 I →
    (∀ I', (∀ x c, ¬ (x = 108 ∨ x = 109 ∨ x = 104 ∨ (x = 103 ∧ c = 7)) → I' x c = I x c) → mFo P (gad P el q w i S).2.1 (gad P el q w i S).2.2.1 (gad P el q w i S).2.2.2.1 (gad P el q w i S).2.2.2.2 I' → K (some (.int (nI (gad P el q w i S).1))) (sm_SH n, I', J)) →
    sm_Ok (d + 3) 161 69 [.ref 103, .int (nI s), .int (nI q), .int (nI C), .int (nI i), .int 1, x6] [] (sm_SH n, I, J) K
  | 0, i, S, I, x6, hR, hi, hS, hM, hK => by
    have hs := hR.1
    have e1 : (nI C ≤ nI i) = (C ≤ i) := propext (nI_leI (by omega) (by omega))
    rw [z161_69]
    by_cases h1 : C ≤ i
    · simp only [z161_0, z161_1, z161_4, z161_7, z161_8, z161_9, z161_10, z161_13, z161_16, z161_19, z161_20, z161_21, z161_22, z161_25, z161_26, z161_27, z161_30, z161_31, z161_34, z161_35, z161_36, z161_38, z161_41, z161_43, z161_44, z161_45, z161_47, z161_48, z161_51, z161_52, z161_53, z161_55, z161_58, z161_59, z161_62, z161_63, z161_66, z161_67, z161_71, z161_74, z161_76, z161_77, z161_80, z161_81, z161_82, z161_85, z161_86, z161_87, z161_88, z161_89, z161_90, z161_92, z161_93, z161_94, z161_97, z161_98, z161_101, z161_103, z161_106, z161_107, z161_110, z161_111, z161_113, z161_115, z161_116, z161_117, z161_118, z161_119, z161_120, z161_122, z161_123, z161_124, z161_126, z161_128, z161_131, z161_132, z161_133, z161_136, z161_138, z161_139, z161_140, z161_143, z161_145, z161_146, z161_147, z161_148, z161_149, z161_152, z161_154, z161_155, z161_156, z161_157, z161_160, z161_163, z161_164, z161_167, z161_168, z161_170, z161_172, z161_175, z161_176, z161_177, z161_180, z161_182, z161_183, z161_184, z161_185, z161_188, z161_190, z161_191, z161_192, z161_193, z161_194, z161_195, z161_198, z161_200, z161_201, z161_202, z161_203, z161_204, z161_207, z161_210, z161_213, z161_215, sm_cti, sm_ctr, sm_ctn, sm_nbi, Option.toList_some, Option.toList_none, List.cons_append, List.nil_append, ne_eq, reduceCtorEq, not_false_eq_true, Nat.reduceLeDiff, e1, h1, if_true, if_false, not_true_eq_false, not_false_eq_true, and_true, true_and, and_false, false_and, and_self, or_true, true_or, or_false, false_or, reduceIte, iff_self, Int32.add_zero, y_10, Classical.not_not]
      exact hK I (fun _ _ _ => rfl) hM
    · have h2 : ¬ (q + 3 * i + 3 ≤ m) := by omega
      have e2 := dbt_b hq hR.2.1 (show i ≤ 12 by omega)
      simp only [z161_0, z161_1, z161_4, z161_7, z161_8, z161_9, z161_10, z161_13, z161_16, z161_19, z161_20, z161_21, z161_22, z161_25, z161_26, z161_27, z161_30, z161_31, z161_34, z161_35, z161_36, z161_38, z161_41, z161_43, z161_44, z161_45, z161_47, z161_48, z161_51, z161_52, z161_53, z161_55, z161_58, z161_59, z161_62, z161_63, z161_66, z161_67, z161_71, z161_74, z161_76, z161_77, z161_80, z161_81, z161_82, z161_85, z161_86, z161_87, z161_88, z161_89, z161_90, z161_92, z161_93, z161_94, z161_97, z161_98, z161_101, z161_103, z161_106, z161_107, z161_110, z161_111, z161_113, z161_115, z161_116, z161_117, z161_118, z161_119, z161_120, z161_122, z161_123, z161_124, z161_126, z161_128, z161_131, z161_132, z161_133, z161_136, z161_138, z161_139, z161_140, z161_143, z161_145, z161_146, z161_147, z161_148, z161_149, z161_152, z161_154, z161_155, z161_156, z161_157, z161_160, z161_163, z161_164, z161_167, z161_168, z161_170, z161_172, z161_175, z161_176, z161_177, z161_180, z161_182, z161_183, z161_184, z161_185, z161_188, z161_190, z161_191, z161_192, z161_193, z161_194, z161_195, z161_198, z161_200, z161_201, z161_202, z161_203, z161_204, z161_207, z161_210, z161_213, z161_215, sm_cti, sm_ctr, sm_ctn, sm_nbi, Option.toList_some, Option.toList_none, List.cons_append, List.nil_append, ne_eq, reduceCtorEq, not_false_eq_true, Nat.reduceLeDiff, kc103, kc127, rf103_45, y_inN hs (by decide), nI_clamp (show s < 2 ^ 31 by omega), hR.2.2.2.2.2.2.1, e1, h1, e2, h2, m_debts_0, if_true, if_false, not_true_eq_false, not_false_eq_true, and_true, true_and, and_false, false_and, and_self, or_true, true_or, or_false, false_or, reduceIte, iff_self, Int32.add_zero, y_10, Classical.not_not]
      exact hK I (fun _ _ _ => rfl) hM
  | w + 1, i, S, I, x6, hR, hi, hS, hM, hK => by
    have hs := hR.1
    have hm := hR.2.1
    have hE := hR.2.2.2.2.2.2.2
    have hD := hS.1.2.1
    have e1 : (nI C ≤ nI i) = False := propext ⟨fun z => by have := (nI_leI (by omega) (by omega)).mp z; omega, fun z => z.elim⟩
    have h2 : q + 3 * i + 3 ≤ m := by omega
    have e2 := dbt_b hq hR.2.1 (show i ≤ 12 by omega)
    have a3 : 60 * nI s + nI q + 3 * nI i = nI (60 * s + (q + 3 * i)) := by rw [show (3 : Int32) = nI 3 from rfl, show (60 : Int32) = nI 60 from rfl, nI_mul, nI_mul, nI_add, nI_add]; rw [Nat.add_assoc]
    have a4 : nI (60 * s + (q + 3 * i)) + 1 = nI (60 * s + (q + 3 * i + 1)) := nI_add _ 1
    have a5 : nI (60 * s + (q + 3 * i)) + 2 = nI (60 * s + (q + 3 * i + 2)) := nI_add _ 2
    rw [z161_69]
    by_cases hc : S.1 < 12 ∧ owe P (el (q + 3 * i)) (el (q + 3 * i + 1)) (el (q + 3 * i + 2))
    · obtain ⟨o1, ox, oy, os⟩ := dbn_ok hS hc.1 hc.2
      have e12 : ¬ (12 : Int32) ≤ nI S.1 := fun z => absurd ((nI_ltI (b := 12) (by omega) (by decide)).mpr hc.1) (Int32.not_lt.mpr z)
      have e : gad P el q (w + 1) i S = gad P el q w (i + 1) (dbn S (el (q + 3 * i)) (el (q + 3 * i + 1)) (el (q + 3 * i + 2))) := by
        conv => lhs; unfold gad
        rw [if_pos hc]
      rw [e] at hK
      simp only [z161_0, z161_1, z161_4, z161_7, z161_8, z161_9, z161_10, z161_13, z161_16, z161_19, z161_20, z161_21, z161_22, z161_25, z161_26, z161_27, z161_30, z161_31, z161_34, z161_35, z161_36, z161_38, z161_41, z161_43, z161_44, z161_45, z161_47, z161_48, z161_51, z161_52, z161_53, z161_55, z161_58, z161_59, z161_62, z161_63, z161_66, z161_67, z161_71, z161_74, z161_76, z161_77, z161_80, z161_81, z161_82, z161_85, z161_86, z161_87, z161_88, z161_89, z161_90, z161_92, z161_93, z161_94, z161_97, z161_98, z161_101, z161_103, z161_106, z161_107, z161_110, z161_111, z161_113, z161_115, z161_116, z161_117, z161_118, z161_119, z161_120, z161_122, z161_123, z161_124, z161_126, z161_128, z161_131, z161_132, z161_133, z161_136, z161_138, z161_139, z161_140, z161_143, z161_145, z161_146, z161_147, z161_148, z161_149, z161_152, z161_154, z161_155, z161_156, z161_157, z161_160, z161_163, z161_164, z161_167, z161_168, z161_170, z161_172, z161_175, z161_176, z161_177, z161_180, z161_182, z161_183, z161_184, z161_185, z161_188, z161_190, z161_191, z161_192, z161_193, z161_194, z161_195, z161_198, z161_200, z161_201, z161_202, z161_203, z161_204, z161_207, z161_210, z161_213, z161_215, sm_cti, sm_ctr, sm_ctn, sm_nbi, Option.toList_some, Option.toList_none, List.cons_append, List.nil_append, ne_eq, reduceCtorEq, not_false_eq_true, Nat.reduceLeDiff, kc103, rc103, kc127, kc128, rf103_45, rf103_46, y_inN hs (by decide), nI_clamp (show s < 2 ^ 31 by omega), hR.2.2.2.2.2.2.1, e1, e2, h2, hM.2.1, e12, a3, a4, a5, y_inN (show 60 * s + (q + 3 * i) < 360 by omega) (by decide), y_inN (show 60 * s + (q + 3 * i + 1) < 360 by omega) (by decide), y_inN (show 60 * s + (q + 3 * i + 2) < 360 by omega) (by decide), nI_clamp (show 60 * s + (q + 3 * i) < 2 ^ 31 by omega), nI_clamp (show 60 * s + (q + 3 * i + 1) < 2 ^ 31 by omega), nI_clamp (show 60 * s + (q + 3 * i + 2) < 2 ^ 31 by omega), (hE (q + 3 * i) (by omega)).2, (hE (q + 3 * i + 1) (by omega)).2, (hE (q + 3 * i + 2) (by omega)).2, m_owe1 (show P < 2 ^ 31 by omega) hM.1 hc.2, t64, m_adds hc.1 hM.2.1, nI_1, if_true, if_false, not_true_eq_false, not_false_eq_true, and_true, true_and, and_false, false_and, and_self, or_true, true_or, or_false, false_or, reduceIte, iff_self, Int32.add_zero, y_10, Classical.not_not]
      have A := mAd_ok hM hc.1 (el (q + 3 * i)).toNatClampNeg (el (q + 3 * i + 1)).toNatClampNeg (el (q + 3 * i + 2)).toNatClampNeg
      rw [← ox, ← oy, ← os] at A
      refine m_debts_lp hC hP8 hq hL d n K w (i + 1) _ _ _ (rowb_f hR (fun x c hx => mAd_f _ _ _ _ _ (by omega))) (by omega) o1 A (fun I' w1 w2 => hK I' (fun x c hx => by rw [w1 x c hx, mAd_f _ _ _ _ _ hx]) w2)
    · have e : gad P el q (w + 1) i S = (i, S) := by
        conv => lhs; unfold gad
        rw [if_neg hc]
      rw [e] at hK
      by_cases h12 : S.1 < 12
      · have e12 : ¬ (12 : Int32) ≤ nI S.1 := fun z => absurd ((nI_ltI (b := 12) (by omega) (by decide)).mpr h12) (Int32.not_lt.mpr z)
        have ho : ¬ owe P (el (q + 3 * i)) (el (q + 3 * i + 1)) (el (q + 3 * i + 2)) := fun z => hc ⟨h12, z⟩
        simp only [z161_0, z161_1, z161_4, z161_7, z161_8, z161_9, z161_10, z161_13, z161_16, z161_19, z161_20, z161_21, z161_22, z161_25, z161_26, z161_27, z161_30, z161_31, z161_34, z161_35, z161_36, z161_38, z161_41, z161_43, z161_44, z161_45, z161_47, z161_48, z161_51, z161_52, z161_53, z161_55, z161_58, z161_59, z161_62, z161_63, z161_66, z161_67, z161_71, z161_74, z161_76, z161_77, z161_80, z161_81, z161_82, z161_85, z161_86, z161_87, z161_88, z161_89, z161_90, z161_92, z161_93, z161_94, z161_97, z161_98, z161_101, z161_103, z161_106, z161_107, z161_110, z161_111, z161_113, z161_115, z161_116, z161_117, z161_118, z161_119, z161_120, z161_122, z161_123, z161_124, z161_126, z161_128, z161_131, z161_132, z161_133, z161_136, z161_138, z161_139, z161_140, z161_143, z161_145, z161_146, z161_147, z161_148, z161_149, z161_152, z161_154, z161_155, z161_156, z161_157, z161_160, z161_163, z161_164, z161_167, z161_168, z161_170, z161_172, z161_175, z161_176, z161_177, z161_180, z161_182, z161_183, z161_184, z161_185, z161_188, z161_190, z161_191, z161_192, z161_193, z161_194, z161_195, z161_198, z161_200, z161_201, z161_202, z161_203, z161_204, z161_207, z161_210, z161_213, z161_215, sm_cti, sm_ctr, sm_ctn, sm_nbi, Option.toList_some, Option.toList_none, List.cons_append, List.nil_append, ne_eq, reduceCtorEq, not_false_eq_true, Nat.reduceLeDiff, kc103, rc103, kc127, kc128, rf103_45, rf103_46, y_inN hs (by decide), nI_clamp (show s < 2 ^ 31 by omega), hR.2.2.2.2.2.2.1, e1, e2, h2, hM.2.1, e12, a3, a4, a5, y_inN (show 60 * s + (q + 3 * i) < 360 by omega) (by decide), y_inN (show 60 * s + (q + 3 * i + 1) < 360 by omega) (by decide), y_inN (show 60 * s + (q + 3 * i + 2) < 360 by omega) (by decide), nI_clamp (show 60 * s + (q + 3 * i) < 2 ^ 31 by omega), nI_clamp (show 60 * s + (q + 3 * i + 1) < 2 ^ 31 by omega), nI_clamp (show 60 * s + (q + 3 * i + 2) < 2 ^ 31 by omega), (hE (q + 3 * i) (by omega)).2, (hE (q + 3 * i + 1) (by omega)).2, (hE (q + 3 * i + 2) (by omega)).2, m_owe0 (show P < 2 ^ 31 by omega) hM.1 ho, m_debts_0, if_true, if_false, not_true_eq_false, not_false_eq_true, and_true, true_and, and_false, false_and, and_self, or_true, true_or, or_false, false_or, reduceIte, iff_self, Int32.add_zero, y_10, Classical.not_not]
        exact hK I (fun _ _ _ => rfl) hM
      · have e12 : (12 : Int32) ≤ nI S.1 := (nI_leI (a := 12) (by decide) (by omega)).mpr (by omega)
        simp only [z161_0, z161_1, z161_4, z161_7, z161_8, z161_9, z161_10, z161_13, z161_16, z161_19, z161_20, z161_21, z161_22, z161_25, z161_26, z161_27, z161_30, z161_31, z161_34, z161_35, z161_36, z161_38, z161_41, z161_43, z161_44, z161_45, z161_47, z161_48, z161_51, z161_52, z161_53, z161_55, z161_58, z161_59, z161_62, z161_63, z161_66, z161_67, z161_71, z161_74, z161_76, z161_77, z161_80, z161_81, z161_82, z161_85, z161_86, z161_87, z161_88, z161_89, z161_90, z161_92, z161_93, z161_94, z161_97, z161_98, z161_101, z161_103, z161_106, z161_107, z161_110, z161_111, z161_113, z161_115, z161_116, z161_117, z161_118, z161_119, z161_120, z161_122, z161_123, z161_124, z161_126, z161_128, z161_131, z161_132, z161_133, z161_136, z161_138, z161_139, z161_140, z161_143, z161_145, z161_146, z161_147, z161_148, z161_149, z161_152, z161_154, z161_155, z161_156, z161_157, z161_160, z161_163, z161_164, z161_167, z161_168, z161_170, z161_172, z161_175, z161_176, z161_177, z161_180, z161_182, z161_183, z161_184, z161_185, z161_188, z161_190, z161_191, z161_192, z161_193, z161_194, z161_195, z161_198, z161_200, z161_201, z161_202, z161_203, z161_204, z161_207, z161_210, z161_213, z161_215, sm_cti, sm_ctr, sm_ctn, sm_nbi, Option.toList_some, Option.toList_none, List.cons_append, List.nil_append, ne_eq, reduceCtorEq, not_false_eq_true, Nat.reduceLeDiff, kc103, rc103, kc127, rf103_45, y_inN hs (by decide), nI_clamp (show s < 2 ^ 31 by omega), hR.2.2.2.2.2.2.1, e1, e2, h2, hM.2.1, e12, m_debts_0, if_true, if_false, not_true_eq_false, not_false_eq_true, and_true, true_and, and_false, false_and, and_self, or_true, true_or, or_false, false_or, reduceIte, iff_self, Int32.add_zero, y_10, Classical.not_not]
        exact hK I (fun _ _ _ => rfl) hM
end
