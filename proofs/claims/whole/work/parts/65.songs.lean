/-! songs -/
/-- how many are so, from the first on -/
def lead (ok : Nat → Bool) : Nat → Nat → Nat
  | 0, i => i
  | w + 1, i => if ok i = true then lead ok w (i + 1) else i
theorem lead_le (ok : Nat → Bool) : ∀ (w i : Nat), i ≤ lead ok w i ∧ lead ok w i ≤ i + w
  | 0, i => ⟨Nat.le_refl _, Nat.le_refl _⟩
  | w + 1, i => by
    unfold lead
    split
    · have := lead_le ok w (i + 1)
      omega
    · omega
theorem lead_ok (ok : Nat → Bool) : ∀ (w i j : Nat), i ≤ j → j < lead ok w i → ok j = true
  | 0, i, j, h1, h2 => absurd h2 (by unfold lead; omega)
  | w + 1, i, j, h1, h2 => by
    unfold lead at h2
    by_cases h : ok i = true
    · rw [if_pos h] at h2
      by_cases hj : j = i
      · rw [hj]
        exact h
      · exact lead_ok ok w (i + 1) j (by omega) h2
    · rw [if_neg h] at h2
      omega
/-- a row of bytes or shorts on a shelf -/
def rowb (s t m : Nat) (el : Nat → Int32) (I : sm_I) (J : sm_J) : Prop := s < 6 ∧ m ≤ 60 ∧ I (91 + 2 * s) 1 = -1 ∧ I (91 + 2 * s) 2 = nI t ∧ I (91 + 2 * s) 3 = nI m ∧ I 126 s = nI (50 + t) ∧ I 127 s = nI m ∧ ∀ j, j < 60 → J (92 + 2 * s) j = (el j).toInt64 ∧ J 128 (60 * s + j) = (el j).toInt64
theorem rowb_f {s t m : Nat} {el : Nat → Int32} {I I' : sm_I} {J : sm_J} (h : rowb s t m el I J) (hf : ∀ x c, (91 ≤ x ∧ x < 103) ∨ x = 126 ∨ x = 127 → I' x c = I x c) : rowb s t m el I' J := by
  obtain ⟨h1, h2, h3, h4, h5, h6, h7, h8⟩ := h
  exact ⟨h1, h2, by rw [hf _ _ (by omega), h3], by rw [hf _ _ (by omega), h4], by rw [hf _ _ (by omega), h5], by rw [hf _ _ (by omega), h6], by rw [hf _ _ (by omega), h7], h8⟩
def oks (D : Nat) (el : Nat → Int32) (i : Nat) : Bool := decide (el i = 12 ∨ (0 ≤ el i ∧ el i < nI D))
def nso (D m : Nat) (el : Nat → Int32) : Nat := lead (oks D el) (min 40 m) 0
theorem nso_le (D m : Nat) (el : Nat → Int32) : nso D m el ≤ 40 ∧ nso D m el ≤ m := by
  have := lead_le (oks D el) (min 40 m) 0
  unfold nso
  omega
theorem nso_ok {D m : Nat} {el : Nat → Int32} (hD : D ≤ 12) {i : Nat} (hi : i < nso D m el) : ((el i).toNatClampNeg < D ∨ (el i).toNatClampNeg = 12) ∧ el i = nI (el i).toNatClampNeg := by
  have h := lead_ok (oks D el) (min 40 m) 0 i (Nat.zero_le _) hi
  obtain ⟨e, he, hx⟩ := songOk hD (of_decide_eq_true h)
  rw [hx, nI_clamp (by omega)]
  exact ⟨he, rfl⟩
theorem t64 (x : Int32) : x.toInt64.toInt32 = x := Int32.toInt32_toInt64 x
theorem c_songAt {s t m : Nat} {el : Nat → Int32} {I : sm_I} {J : sm_J} (h : rowb s t m el I J) (d n : Nat) (K : Option Value → sm_H → Prop) {i : Nat} (hi : i < 60) : sm_Ok d 138 0 [.ref 26, .int (nI s), .int (nI i)] [] (sm_SH n, I, J) K ↔ K (some (.int (el i))) (sm_SH n, I, J) := by
  obtain ⟨k1, k2, k3⟩ := y_shelf h.1
  have hs := h.1
  simp only [z138_0, z138_1, z138_4, z138_5, z138_6, z138_9, z138_10, z138_11, z138_12, sm_cti, sm_ctr, sm_ctn, sm_nbi, Option.toList_some, Option.toList_none, List.cons_append, List.nil_append, ne_eq, reduceCtorEq, not_false_eq_true, Nat.reduceLeDiff, kc26, kc90, rf26_12, k1, k2, k3, y_inN hs (by decide), nI_clamp (show s < 2 ^ 31 by omega), y_inN hi (by decide), nI_clamp (show i < 2 ^ 31 by omega), (h.2.2.2.2.2.2.2 i hi).1, t64, if_true, if_false, not_true_eq_false, not_false_eq_true, and_true, true_and, and_false, false_and, and_self, or_true, true_or, or_false, false_or, reduceIte, iff_self, Int32.add_zero, y_10, Classical.not_not]
theorem c_so_lp {s t m D : Nat} {el : Nat → Int32} {I : sm_I} {J : sm_J} (h : rowb s t m el I J) (hD : I 34 7 = nI D) {M : Nat} (hM : M ≤ 60) (d n : Nat) (K : Option Value → sm_H → Prop) : ∀ (w i : Nat) (x4 : Value), i + w = M →
    (sm_Ok (d + 1) 139 17 [.ref 26, .int (nI s), .int (nI M), .int (nI i), x4] [] (sm_SH n, I, J) K ↔ K (some (.int (nI (lead (oks D el) w i)))) (sm_SH n, I, J))
  | 0, i, x4, hi => by
    have hi : i = M := by omega
    subst hi
    rw [z139_17]
    simp only [z139_0, z139_2, z139_3, z139_6, z139_7, z139_8, z139_11, z139_14, z139_15, z139_16, z139_18, z139_19, z139_22, z139_23, z139_24, z139_25, z139_28, z139_30, z139_32, z139_34, z139_37, z139_38, z139_41, z139_43, z139_46, z139_49, z139_50, z139_51, z139_54, z139_57, z139_58, sm_cti, sm_ctr, sm_ctn, sm_nbi, Option.toList_some, Option.toList_none, List.cons_append, List.nil_append, ne_eq, reduceCtorEq, not_false_eq_true, Nat.reduceLeDiff, Int32.le_refl, lead, if_true, if_false, not_true_eq_false, not_false_eq_true, and_true, true_and, and_false, false_and, and_self, or_true, true_or, or_false, false_or, reduceIte, iff_self, Int32.add_zero, y_10, Classical.not_not]
  | w + 1, i, x4, hi => by
    have hiM : i < M := by omega
    have ih := fun x4 => c_so_lp h hD hM d n K w (i + 1) x4 (by omega)
    have e1 : (lead (oks D el) (w + 1) i) = if (el i = 12 ∨ (0 ≤ el i ∧ el i < nI D)) then lead (oks D el) w (i + 1) else i := by
      conv => lhs; unfold lead
      unfold oks
      simp only [decide_eq_true_eq]
    rw [z139_17]
    simp only [z139_18, z139_19, z139_22, z139_23, z139_24, z139_25, z139_28, z139_30, z139_32, z139_34, z139_37, z139_38, z139_41, z139_43, z139_46, z139_49, z139_50, z139_51, z139_54, sm_cti, sm_ctr, sm_ctn, sm_nbi, Option.toList_some, Option.toList_none, List.cons_append, List.nil_append, ne_eq, reduceCtorEq, not_false_eq_true, Nat.reduceLeDiff, kc26, rc26, rc34, rf26_2, if_neg (nI_ge hiM (show M < 2 ^ 31 by omega)), c_songAt h _ _ _ (show i < 60 by omega), y_isDebt, hD, y_bit, nI_1, ih, if_true, if_false, not_true_eq_false, not_false_eq_true, and_true, true_and, and_false, false_and, and_self, or_true, true_or, or_false, false_or, reduceIte, iff_self, Int32.add_zero, y_10, Classical.not_not]
    rw [e1]
    by_cases h1 : el i = 12
    · simp only [h1, if_true, if_false, not_true_eq_false, not_false_eq_true, and_true, true_and, and_false, false_and, and_self, or_true, true_or, or_false, false_or, reduceIte, iff_self, Int32.add_zero, y_10, Classical.not_not]
    · by_cases h2 : 0 ≤ el i ∧ el i < nI D
      · simp only [h1, h2, if_true, if_false, not_true_eq_false, not_false_eq_true, and_true, true_and, and_false, false_and, and_self, or_true, true_or, or_false, false_or, reduceIte, iff_self, Int32.add_zero, y_10, Classical.not_not]
      · simp only [h1, h2, if_true, if_false, not_true_eq_false, not_false_eq_true, and_true, true_and, and_false, false_and, and_self, or_true, true_or, or_false, false_or, reduceIte, iff_self, Int32.add_zero, y_10, Classical.not_not]
theorem c_songsOn {s t m D : Nat} {el : Nat → Int32} {I : sm_I} {J : sm_J} (h : rowb s t m el I J) (hD : I 34 7 = nI D) (d n : Nat) (K : Option Value → sm_H → Prop) : sm_Ok (d + 1) 139 0 [.ref 26, .int (nI s), .null, .null, .null] [] (sm_SH n, I, J) K ↔ K (some (.int (nI (nso D m el)))) (sm_SH n, I, J) := by
  obtain ⟨k1, k2, k3⟩ := y_shelf h.1
  have hs := h.1
  have hm := h.2.1
  have e1 : (if nI m < 40 then nI m else 40) = nI (min 40 m) := nI_min (a := 40) (by decide) (by omega)
  have lp := fun K => c_so_lp h hD (M := min 40 m) (by omega) d n K (min 40 m) 0 .null (by omega)
  rw [nI_0] at lp
  simp only [z139_0, z139_2, z139_3, z139_6, z139_7, z139_8, z139_11, z139_14, z139_15, z139_16, z139_18, z139_19, z139_22, z139_23, z139_24, z139_25, z139_28, z139_30, z139_32, z139_34, z139_37, z139_38, z139_41, z139_43, z139_46, z139_49, z139_50, z139_51, z139_54, z139_57, z139_58, sm_cti, sm_ctr, sm_ctn, sm_nbi, Option.toList_some, Option.toList_none, List.cons_append, List.nil_append, ne_eq, reduceCtorEq, not_false_eq_true, Nat.reduceLeDiff, kc26, kc90, rf26_12, k1, y_inN hs (by decide), nI_clamp (show s < 2 ^ 31 by omega), h.2.2.2.2.1, e1, lp, nso, if_true, if_false, not_true_eq_false, not_false_eq_true, and_true, true_and, and_false, false_and, and_self, or_true, true_or, or_false, false_or, reduceIte, iff_self, Int32.add_zero, y_10, Classical.not_not]
theorem i64_12 (x : Int32) : (x.toInt64 = 12) = (x = 12) := propext ⟨fun h => by
  have h2 : x.toInt64.toInt32 = (12 : Int64).toInt32 := by rw [h]
  rw [t64] at h2
  exact h2, fun h => by rw [h]; rfl⟩
theorem m_ts_lp {s t m D : Nat} {el : Nat → Int32} {I : sm_I} {J : sm_J} (h : rowb s t m el I J) (hD : I 103 7 = nI D) (hD2 : D ≤ 12) (d n : Nat) (K : Option Value → sm_H → Prop) : ∀ (w i : Nat), i + w = min 40 m → ∀ I1 : sm_I, (∀ x c, ¬ (x = 116 ∨ (x = 103 ∧ c = 26)) → I1 x c = I x c) → I1 103 26 = nI i → (∀ j, j < i → I1 116 j = el j) →
    (∀ I', (∀ x c, ¬ (x = 116 ∨ (x = 103 ∧ c = 26)) → I' x c = I x c) → I' 103 26 = nI (lead (oks D el) w i) → (∀ j, j < lead (oks D el) w i → I' 116 j = el j) → K none (sm_SH n, I', J)) →
    sm_Ok (d + 2) 186 5 [.ref 103, .int (nI s)] [] (sm_SH n, I1, J) K
  | 0, i, hi, I1, f1, f2, f3, hK => by
    have hs := h.1
    have hm := h.2.1
    have em : I1 127 s = nI m := by rw [f1 _ _ (by omega), h.2.2.2.2.2.2.1]
    have fin := hK I1 f1 f2 f3
    rw [z186_5]
    by_cases h4 : i = 40
    · have e4 : (40 : Int32) ≤ nI i := by rw [h4]; decide
      simp only [z186_6, z186_9, z186_11, sm_cti, sm_ctr, sm_ctn, sm_nbi, Option.toList_some, Option.toList_none, List.cons_append, List.nil_append, ne_eq, reduceCtorEq, not_false_eq_true, Nat.reduceLeDiff, kc103, f2, e4, z186_106, if_true, if_false, not_true_eq_false, not_false_eq_true, and_true, true_and, and_false, false_and, and_self, or_true, true_or, or_false, false_or, reduceIte, iff_self, Int32.add_zero, y_10, Classical.not_not]
      exact fin
    · have e4 : ¬ (40 : Int32) ≤ nI i := nI_ge (b := 40) (by omega) (by decide)
      have e5 : nI m ≤ nI i := nI_le (by omega) (by omega)
      simp only [z186_0, z186_1, z186_2, z186_6, z186_9, z186_11, z186_14, z186_15, z186_18, z186_19, z186_22, z186_23, z186_24, z186_27, z186_28, z186_31, z186_33, z186_34, z186_35, z186_36, z186_39, z186_40, z186_41, z186_44, z186_45, z186_48, z186_49, z186_50, z186_53, z186_55, z186_56, z186_57, z186_58, z186_61, z186_62, z186_63, z186_66, z186_69, z186_70, z186_73, z186_74, z186_77, z186_78, z186_81, z186_83, z186_84, z186_85, z186_86, z186_89, z186_90, z186_91, z186_92, z186_93, z186_94, z186_95, z186_98, z186_99, z186_100, z186_103, z186_106, sm_cti, sm_ctr, sm_ctn, sm_nbi, Option.toList_some, Option.toList_none, List.cons_append, List.nil_append, ne_eq, reduceCtorEq, not_false_eq_true, Nat.reduceLeDiff, kc103, kc127, rf103_45, f2, e4, em, e5, y_inN hs (by decide), nI_clamp (show s < 2 ^ 31 by omega), if_true, if_false, not_true_eq_false, not_false_eq_true, and_true, true_and, and_false, false_and, and_self, or_true, true_or, or_false, false_or, reduceIte, iff_self, Int32.add_zero, y_10, Classical.not_not]
      exact fin
  | w + 1, i, hi, I1, f1, f2, f3, hK => by
    have hs := h.1
    have hm := h.2.1
    have em : I1 127 s = nI m := by rw [f1 _ _ (by omega), h.2.2.2.2.2.2.1]
    have e4 : ¬ (40 : Int32) ≤ nI i := nI_ge (b := 40) (by omega) (by decide)
    have e5 : ¬ nI m ≤ nI i := nI_ge (by omega) (by omega)
    have eD : I1 103 7 = nI D := by rw [f1 _ _ (by omega), hD]
    have el1 := (h.2.2.2.2.2.2.2 i (by omega)).2
    have hL : lead (oks D el) (w + 1) i = if oks D el i = true then lead (oks D el) w (i + 1) else i := rfl
    have e26 : sm_uI I1 116 i (el i) 103 26 = nI i := by rw [uI_q _ _ (by omega), f2]
    have goon : oks D el i = true → sm_Ok (d + 2) 186 5 [.ref 103, .int (nI s)] [] (sm_SH n, sm_uI (sm_uI I1 116 i (el i)) 103 26 (nI (i + 1)), J) K := by
      intro hok
      rw [hL, if_pos hok] at hK
      refine m_ts_lp h hD hD2 d n K w (i + 1) (by omega) _ (fun x c hx => by rw [uI_o _ _ (by omega), uI_q _ _ (by omega), f1 x c hx]) (uI_s _ _ _ _) (fun j hj => ?_) hK
      rw [uI_q _ _ (by omega)]
      by_cases hj2 : j = i
      · rw [hj2, uI_s]
      · rw [uI_o _ _ (by omega), f3 j (by omega)]
    rw [z186_5]
    simp only [z186_0, z186_1, z186_2, z186_6, z186_9, z186_11, z186_14, z186_15, z186_18, z186_19, z186_22, z186_23, z186_24, z186_27, z186_28, z186_31, z186_33, z186_34, z186_35, z186_36, z186_39, z186_40, z186_41, z186_44, z186_45, z186_48, z186_49, z186_50, z186_53, z186_55, z186_56, z186_57, z186_58, z186_61, z186_62, z186_63, z186_66, z186_69, z186_70, z186_73, z186_74, z186_77, z186_78, z186_81, z186_83, z186_84, z186_85, z186_86, z186_89, z186_90, z186_91, z186_92, z186_93, z186_94, z186_95, z186_98, z186_99, z186_100, z186_103, z186_106, sm_cti, sm_ctr, sm_ctn, sm_nbi, Option.toList_some, Option.toList_none, List.cons_append, List.nil_append, ne_eq, reduceCtorEq, not_false_eq_true, Nat.reduceLeDiff, kc103, rc103, kc127, kc128, kc116, rf103_25, rf103_45, rf103_46, f2, e4, em, e5, y_inN hs (by decide), nI_clamp (show s < 2 ^ 31 by omega), y_60, nI_add, y_inN (show 60 * s + i < 360 by omega) (by decide), nI_clamp (show 60 * s + i < 2 ^ 31 by omega), y_inN (show i < 40 by omega) (by decide), nI_clamp (show i < 2 ^ 31 by omega), el1, lg_cmp_eq, i64_12, m_isDebtX (show D < 2 ^ 31 by omega) eD, y_bit, t64, e26, nI_1, if_true, if_false, not_true_eq_false, not_false_eq_true, and_true, true_and, and_false, false_and, and_self, or_true, true_or, or_false, false_or, reduceIte, iff_self, Int32.add_zero, y_10, Classical.not_not]
    by_cases h1 : el i = 12
    · have G := goon (decide_eq_true (Or.inl h1))
      rw [h1] at G
      simp only [h1, if_true, if_false, not_true_eq_false, not_false_eq_true, and_true, true_and, and_false, false_and, and_self, or_true, true_or, or_false, false_or, reduceIte, iff_self, Int32.add_zero, y_10, Classical.not_not]
      exact G
    · by_cases h2 : 0 ≤ el i ∧ el i < nI D
      · have G := goon (decide_eq_true (Or.inr h2))
        simp only [h1, h2, if_true, if_false, not_true_eq_false, not_false_eq_true, and_true, true_and, and_false, false_and, and_self, or_true, true_or, or_false, false_or, reduceIte, iff_self, Int32.add_zero, y_10, Classical.not_not]
        exact G
      · have hno : ¬ oks D el i = true := fun z => (of_decide_eq_true z).elim h1 h2
        rw [hL, if_neg hno] at hK
        simp only [h1, h2, if_true, if_false, not_true_eq_false, not_false_eq_true, and_true, true_and, and_false, false_and, and_self, or_true, true_or, or_false, false_or, reduceIte, iff_self, Int32.add_zero, y_10, Classical.not_not]
        exact hK I1 f1 f2 f3
theorem m_takesSongs {s t m D : Nat} {el : Nat → Int32} {I : sm_I} {J : sm_J} (h : rowb s t m el I J) (hD : I 103 7 = nI D) (hD2 : D ≤ 12) (d n : Nat) (K : Option Value → sm_H → Prop)
    (hK : ∀ I', (∀ x c, ¬ (x = 116 ∨ (x = 103 ∧ c = 26)) → I' x c = I x c) → I' 103 26 = nI (nso D m el) → (∀ j, j < nso D m el → I' 116 j = el j) → K none (sm_SH n, I', J)) :
    sm_Ok (d + 2) 186 0 [.ref 103, .int (nI s)] [] (sm_SH n, I, J) K := by
  simp only [z186_0, z186_1, z186_2, sm_cti, sm_ctr, sm_ctn, sm_nbi, Option.toList_some, Option.toList_none, List.cons_append, List.nil_append, ne_eq, reduceCtorEq, not_false_eq_true, Nat.reduceLeDiff, kc103, if_true, if_false, not_true_eq_false, not_false_eq_true, and_true, true_and, and_false, false_and, and_self, or_true, true_or, or_false, false_or, reduceIte, iff_self, Int32.add_zero, y_10, Classical.not_not]
  have h' : rowb s t m el (sm_uI I 103 26 0) J := rowb_f h (fun x c hx => uI_q _ _ (by omega))
  refine m_ts_lp h' (by rw [uI_o _ _ (by omega), hD]) hD2 d n K (min 40 m) 0 (by omega) _ (fun x c _ => rfl) (by rw [uI_s]; rfl) (fun j hj => absurd hj (Nat.not_lt_zero _)) (fun I' w1 w2 w3 => ?_)
  exact hK I' (fun x c hx => by rw [w1 x c hx, uI_o _ _ (by omega)]) w2 w3
