/-! an evening of the reference -/
section
variable {P D : Nat} {f a b : Nat → Nat} {lo : Option ((Nat → Nat) × Nat)}
def mFo (P D : Nat) (f a b : Nat → Nat) (I : sm_I) : Prop := I 103 6 = nI P ∧ I 103 7 = nI D ∧ (∀ k, k < 54 → I 104 k = nI (f k)) ∧ ∀ e, e < D → I 108 e = nI (a e) ∧ I 109 e = nI (b e)
def mTa (P D : Nat) (g : Nat → Nat) (I : sm_I) : Prop := (∀ p, p < P → I 113 p = nI (g (24 + p)) ∧ I 114 p = nI (g (32 + p))) ∧ (∀ e, e < D → I 115 e = nI (g (40 + e))) ∧ I 103 23 = nI (g 53)
def mLw (lo : Option ((Nat → Nat) × Nat)) (I : sm_I) : Prop := match lo with
  | none => I 103 13 = -1
  | some tn => tn.2 ≤ 120 ∧ (∀ j, j < tn.2 → tn.1 j < 256) ∧ ((pt tn.1 tn.2).2.1 = false ∧ (pt tn.1 tn.2).1 = tn.2) ∧ I 103 13 = nI tn.2 ∧ ∀ j, j < tn.2 → I 111 j = nI (tn.1 j)
theorem mFo_f {I I' : sm_I} (h : mFo P D f a b I) (hf : ∀ x c, (x = 103 ∧ (c = 6 ∨ c = 7)) ∨ x = 104 ∨ x = 108 ∨ x = 109 → I' x c = I x c) : mFo P D f a b I' := by
  obtain ⟨h1, h2, h3, h4⟩ := h
  exact ⟨by rw [hf _ _ (by omega), h1], by rw [hf _ _ (by omega), h2], fun k hk => by rw [hf _ _ (by omega), h3 k hk], fun e he => ⟨by rw [hf _ _ (by omega), (h4 e he).1], by rw [hf _ _ (by omega), (h4 e he).2]⟩⟩
theorem mLw_f {I I' : sm_I} (h : mLw lo I) (hf : ∀ x c, (x = 103 ∧ c = 13) ∨ x = 111 → I' x c = I x c) : mLw lo I' := by
  unfold mLw at h ⊢
  match lo with
  | none => exact (hf _ _ (by omega)).trans h
  | some tn =>
    obtain ⟨h1, h2, h3, h4, h5⟩ := h
    exact ⟨h1, h2, h3, by rw [hf _ _ (by omega), h4], fun j hj => by rw [hf _ _ (by omega), h5 j hj]⟩
theorem mTa_f {g : Nat → Nat} {I I' : sm_I} (h : mTa P D g I) (hf : ∀ x c, (x = 103 ∧ c = 23) ∨ x = 113 ∨ x = 114 ∨ x = 115 → I' x c = I x c) : mTa P D g I' := by
  obtain ⟨h1, h2, h3⟩ := h
  exact ⟨fun p hp => ⟨by rw [hf _ _ (by omega), (h1 p hp).1], by rw [hf _ _ (by omega), (h1 p hp).2]⟩, fun e he => by rw [hf _ _ (by omega), h2 e he], by rw [hf _ _ (by omega), h3]⟩
theorem la_lo {I : sm_I} (h : iv_la I) : ∃ lo, cLw lo I ∧ mLw lo I := by
  rcases h with ⟨h1, h2⟩ | ⟨t, N, h1, h2, h3⟩
  · exact ⟨none, h2, h1⟩
  · exact ⟨some (t, N), h1, h1.1, h1.2.1, ⟨h1.2.2.1, h1.2.2.2.1⟩, h2, h3⟩
theorem m_beg2 (h12 : D ≤ 12) (d n : Nat) (J : sm_J) (K : Option Value → sm_H → Prop) {I : sm_I} (hM : mFo P D f a b I) : ∀ (w k : Nat), k + w = D → ∀ I1 : sm_I, (∀ x c, ¬ x = 115 → I1 x c = I x c) → (∀ e, e < k → I1 115 e = nI (f (40 + e))) →
    (∀ I', (∀ x c, ¬ (x = 115 ∨ (x = 103 ∧ c = 23)) → I' x c = I x c) → (∀ e, e < D → I' 115 e = nI (f (40 + e))) → I' 103 23 = nI (f 53) → K none (sm_SH n, I', J)) →
    sm_Ok d 179 48 [.ref 103, .int (nI k)] [] (sm_SH n, I1, J) K
  | 0, k, hk, I1, f1, f2, hK => by
    have hk : k = D := by omega
    subst hk
    have e7 : I1 103 7 = nI k := by rw [f1 _ _ (by omega), hM.2.1]
    have e53 : I1 104 53 = nI (f 53) := by rw [f1 _ _ (by omega), hM.2.2.1 53 (by decide)]
    have i53 : sm_in 53 54 = true := by decide
    have c53 : (53 : Int32).toNatClampNeg = 53 := by decide
    rw [z179_48]
    simp only [z179_0, z179_1, z179_3, z179_4, z179_7, z179_10, z179_11, z179_14, z179_15, z179_16, z179_19, z179_21, z179_22, z179_23, z179_24, z179_25, z179_26, z179_29, z179_30, z179_31, z179_34, z179_36, z179_37, z179_38, z179_39, z179_40, z179_43, z179_46, z179_47, z179_49, z179_50, z179_53, z179_56, z179_57, z179_60, z179_61, z179_62, z179_65, z179_67, z179_68, z179_69, z179_70, z179_71, z179_74, z179_77, z179_78, z179_79, z179_82, z179_84, z179_85, z179_88, sm_cti, sm_ctr, sm_ctn, sm_nbi, Option.toList_some, Option.toList_none, List.cons_append, List.nil_append, ne_eq, reduceCtorEq, not_false_eq_true, Nat.reduceLeDiff, kc103, kc104, rf103_0, e7, e53, i53, c53, Int32.le_refl, if_true, if_false, not_true_eq_false, not_false_eq_true, and_true, true_and, and_false, false_and, and_self, or_true, true_or, or_false, false_or, reduceIte, iff_self, Int32.add_zero, y_10, Classical.not_not]
    exact hK _ (fun x c hx => by rw [uI_o _ _ (by omega), f1 x c (by omega)]) (fun e he => by rw [uI_q _ _ (by omega), f2 e he]) (uI_s _ _ _ _)
  | w + 1, k, hk, I1, f1, f2, hK => by
    have hkD : k < D := by omega
    have e7 : I1 103 7 = nI D := by rw [f1 _ _ (by omega), hM.2.1]
    have e4 : I1 104 (40 + k) = nI (f (40 + k)) := by rw [f1 _ _ (by omega), hM.2.2.1 _ (by omega)]
    have a4 : (40 : Int32) + nI k = nI (40 + k) := nI_add 40 k
    rw [z179_48]
    simp only [z179_0, z179_1, z179_3, z179_4, z179_7, z179_10, z179_11, z179_14, z179_15, z179_16, z179_19, z179_21, z179_22, z179_23, z179_24, z179_25, z179_26, z179_29, z179_30, z179_31, z179_34, z179_36, z179_37, z179_38, z179_39, z179_40, z179_43, z179_46, z179_47, z179_49, z179_50, z179_53, z179_56, z179_57, z179_60, z179_61, z179_62, z179_65, z179_67, z179_68, z179_69, z179_70, z179_71, z179_74, z179_77, z179_78, z179_79, z179_82, z179_84, z179_85, z179_88, sm_cti, sm_ctr, sm_ctn, sm_nbi, Option.toList_some, Option.toList_none, List.cons_append, List.nil_append, ne_eq, reduceCtorEq, not_false_eq_true, Nat.reduceLeDiff, kc103, kc104, kc115, rf103_0, rf103_22, e7, if_neg (nI_ge hkD (show D < 2 ^ 31 by omega)), a4, e4, y_inN (show 40 + k < 54 by omega) (by decide), nI_clamp (show 40 + k < 2 ^ 31 by omega), y_inN (show k < 12 by omega) (by decide), nI_clamp (show k < 2 ^ 31 by omega), nI_1, if_true, if_false, not_true_eq_false, not_false_eq_true, and_true, true_and, and_false, false_and, and_self, or_true, true_or, or_false, false_or, reduceIte, iff_self, Int32.add_zero, y_10, Classical.not_not]
    refine m_beg2 h12 d n J K hM w (k + 1) (by omega) _ (fun x c hx => by rw [uI_q _ _ hx, f1 x c hx]) (fun e he => ?_) hK
    by_cases h : e = k
    · rw [h, uI_s]
    · rw [uI_o _ _ (by omega), f2 e (by omega)]
theorem m_beg1 (h8 : P ≤ 8) (d n : Nat) (J : sm_J) (K : Option Value → sm_H → Prop) {I : sm_I} (hM : mFo P D f a b I) : ∀ (w k : Nat), k + w = P → ∀ I1 : sm_I, (∀ x c, ¬ (x = 113 ∨ x = 114) → I1 x c = I x c) → (∀ p, p < k → I1 113 p = nI (f (24 + p)) ∧ I1 114 p = nI (f (32 + p))) →
    (∀ I', (∀ x c, ¬ (x = 113 ∨ x = 114) → I' x c = I x c) → (∀ p, p < P → I' 113 p = nI (f (24 + p)) ∧ I' 114 p = nI (f (32 + p))) → sm_Ok d 179 48 [.ref 103, .int 0] [] (sm_SH n, I', J) K) →
    sm_Ok d 179 2 [.ref 103, .int (nI k)] [] (sm_SH n, I1, J) K
  | 0, k, hk, I1, f1, f2, hK => by
    have hk : k = P := by omega
    subst hk
    have e6 : I1 103 6 = nI k := by rw [f1 _ _ (by omega), hM.1]
    rw [z179_2]
    simp only [z179_0, z179_1, z179_3, z179_4, z179_7, z179_10, z179_11, z179_14, z179_15, z179_16, z179_19, z179_21, z179_22, z179_23, z179_24, z179_25, z179_26, z179_29, z179_30, z179_31, z179_34, z179_36, z179_37, z179_38, z179_39, z179_40, z179_43, z179_46, z179_47, z179_49, z179_50, z179_53, z179_56, z179_57, z179_60, z179_61, z179_62, z179_65, z179_67, z179_68, z179_69, z179_70, z179_71, z179_74, z179_77, z179_78, z179_79, z179_82, z179_84, z179_85, z179_88, sm_cti, sm_ctr, sm_ctn, sm_nbi, Option.toList_some, Option.toList_none, List.cons_append, List.nil_append, ne_eq, reduceCtorEq, not_false_eq_true, Nat.reduceLeDiff, kc103, e6, Int32.le_refl, if_true, if_false, not_true_eq_false, not_false_eq_true, and_true, true_and, and_false, false_and, and_self, or_true, true_or, or_false, false_or, reduceIte, iff_self, Int32.add_zero, y_10, Classical.not_not]
    exact hK _ f1 f2
  | w + 1, k, hk, I1, f1, f2, hK => by
    have hkP : k < P := by omega
    have e6 : I1 103 6 = nI P := by rw [f1 _ _ (by omega), hM.1]
    have e2 : I1 104 (24 + k) = nI (f (24 + k)) := by rw [f1 _ _ (by omega), hM.2.2.1 _ (by omega)]
    have e3 : sm_uI I1 113 k (nI (f (24 + k))) 104 (32 + k) = nI (f (32 + k)) := by rw [uI_q _ _ (by omega), f1 _ _ (by omega), hM.2.2.1 _ (by omega)]
    have a2 : (24 : Int32) + nI k = nI (24 + k) := nI_add 24 k
    have a3 : (32 : Int32) + nI k = nI (32 + k) := nI_add 32 k
    rw [z179_2]
    simp only [z179_0, z179_1, z179_3, z179_4, z179_7, z179_10, z179_11, z179_14, z179_15, z179_16, z179_19, z179_21, z179_22, z179_23, z179_24, z179_25, z179_26, z179_29, z179_30, z179_31, z179_34, z179_36, z179_37, z179_38, z179_39, z179_40, z179_43, z179_46, z179_47, z179_49, z179_50, z179_53, z179_56, z179_57, z179_60, z179_61, z179_62, z179_65, z179_67, z179_68, z179_69, z179_70, z179_71, z179_74, z179_77, z179_78, z179_79, z179_82, z179_84, z179_85, z179_88, sm_cti, sm_ctr, sm_ctn, sm_nbi, Option.toList_some, Option.toList_none, List.cons_append, List.nil_append, ne_eq, reduceCtorEq, not_false_eq_true, Nat.reduceLeDiff, kc103, kc104, kc113, kc114, rf103_0, rf103_20, rf103_21, e6, if_neg (nI_ge hkP (show P < 2 ^ 31 by omega)), a2, a3, e2, e3, y_inN (show 24 + k < 54 by omega) (by decide), nI_clamp (show 24 + k < 2 ^ 31 by omega), y_inN (show 32 + k < 54 by omega) (by decide), nI_clamp (show 32 + k < 2 ^ 31 by omega), y_inN (show k < 8 by omega) (by decide), nI_clamp (show k < 2 ^ 31 by omega), nI_1, if_true, if_false, not_true_eq_false, not_false_eq_true, and_true, true_and, and_false, false_and, and_self, or_true, true_or, or_false, false_or, reduceIte, iff_self, Int32.add_zero, y_10, Classical.not_not]
    refine m_beg1 h8 d n J K hM w (k + 1) (by omega) _ (fun x c hx => by rw [uI_q _ _ (by omega), uI_q _ _ (by omega), f1 x c hx]) (fun p hp => ?_) hK
    by_cases h : p = k
    · rw [h]
      exact ⟨by rw [uI_q _ _ (by omega), uI_s], uI_s _ _ _ _⟩
    · have := f2 p (by omega)
      exact ⟨by rw [uI_q _ _ (by omega), uI_o _ _ (by omega), this.1], by rw [uI_o _ _ (by omega), uI_q _ _ (by omega), this.2]⟩
theorem m_begins (hb : bdf P D f a b) {I : sm_I} (hM : mFo P D f a b I) (d n : Nat) (J : sm_J) (K : Option Value → sm_H → Prop)
    (hK : ∀ I', (∀ x c, ¬ (x = 113 ∨ x = 114 ∨ x = 115 ∨ (x = 103 ∧ c = 23)) → I' x c = I x c) → mTa P D f I' → K none (sm_SH n, I', J)) : sm_Ok d 179 0 [.ref 103, .null] [] (sm_SH n, I, J) K := by
  simp only [z179_0, z179_1, sm_cti, sm_ctr, sm_ctn, sm_nbi, Option.toList_some, Option.toList_none, List.cons_append, List.nil_append, ne_eq, reduceCtorEq, not_false_eq_true, Nat.reduceLeDiff, if_true, if_false, not_true_eq_false, not_false_eq_true, and_true, true_and, and_false, false_and, and_self, or_true, true_or, or_false, false_or, reduceIte, iff_self, Int32.add_zero, y_10, Classical.not_not]
  rw [show (0 : Int32) = nI 0 from nI_0.symm]
  refine m_beg1 hb.1 d n J K hM P 0 (by omega) I (fun x c _ => rfl) (fun p hp => absurd hp (Nat.not_lt_zero _)) (fun I1 g1 g2 => ?_)
  rw [show (0 : Int32) = nI 0 from nI_0.symm]
  refine m_beg2 hb.2.1 d n J K (mFo_f hM (fun x c hx => g1 x c (by omega))) D 0 (by omega) I1 (fun x c _ => rfl) (fun p hp => absurd hp (Nat.not_lt_zero _)) (fun I2 w1 w2 w3 => ?_)
  exact hK I2 (fun x c hx => by rw [w1 x c (by omega), g1 x c (by omega)]) ⟨fun p hp => ⟨by rw [w1 _ _ (by omega), (g2 p hp).1], by rw [w1 _ _ (by omega), (g2 p hp).2]⟩, w2, w3⟩
theorem cnt_s (p : Nat → Bool) (k : Nat) : cnt p (k + 1) = cnt p k + (if p k = true then 1 else 0) := rfl
theorem m_near_lp (hb : bdf P D f a b) {o : Nat} (ho : o < 8) (x1 : Value) (x3 : Int32) (d n : Nat) (J : sm_J) (K : Option Value → sm_H → Prop) {I : sm_I} (hM : mFo P D f a b I) : ∀ (w k : Nat), k + w = P →
    (sm_Ok (d + 1) 181 47 [.ref 103, x1, .int (nI o), .int x3, .int (nI (cnt (nrp f o) k)), .int (nI k)] [] (sm_SH n, I, J) K ↔ sm_Ok (d + 1) 181 98 [.ref 103, x1, .int (nI o), .int x3, .int (nI (cnt (nrp f o) P)), .int (nI P)] [] (sm_SH n, I, J) K)
  | 0, k, hk => by
    have hk : k = P := by omega
    subst hk
    rw [z181_47]
    simp only [z181_49, z181_50, z181_53, sm_cti, sm_ctr, sm_ctn, sm_nbi, Option.toList_some, Option.toList_none, List.cons_append, List.nil_append, ne_eq, reduceCtorEq, not_false_eq_true, Nat.reduceLeDiff, kc103, hM.1, Int32.le_refl, if_true, if_false, not_true_eq_false, not_false_eq_true, and_true, true_and, and_false, false_and, and_self, or_true, true_or, or_false, false_or, reduceIte, iff_self, Int32.add_zero, y_10, Classical.not_not]
  | w + 1, k, hk => by
    have hkP : k < P := by omega
    have h8 := hb.1
    have ih := m_near_lp hb ho x1 x3 d n J K hM w (k + 1) (by omega)
    have ek : I 104 k = nI (f k) := hM.2.2.1 _ (by omega)
    have eo : I 104 o = nI (f o) := hM.2.2.1 _ (by omega)
    have e52 : I 104 52 = nI (f 52) := hM.2.2.1 _ (by omega)
    have h1 := f_house hb (show k < 8 by omega)
    have h2 := f_house hb ho
    have h3 := f_clash hb
    have en := nb_m (x := f o) (y := f k) (c := f 52) (by omega) (by omega) (by omega)
    have eq1 : (nI k = nI o) = (k = o) := propext (nI_eq (by omega) (by omega))
    rw [← ih, z181_47]
    simp only [z181_49, z181_50, z181_53, z181_56, z181_58, z181_60, z181_61, z181_64, z181_65, z181_66, z181_69, z181_70, z181_71, z181_72, z181_75, z181_77, z181_78, z181_81, z181_84, z181_85, z181_88, z181_89, z181_90, z181_92, z181_95, sm_cti, sm_ctr, sm_ctn, sm_nbi, Option.toList_some, Option.toList_none, List.cons_append, List.nil_append, ne_eq, reduceCtorEq, not_false_eq_true, Nat.reduceLeDiff, kc103, kc104, rc103, rf103_0, hM.1, if_neg (nI_ge hkP (show P < 2 ^ 31 by omega)), eq1, y_inN (show o < 54 by omega) (by decide), nI_clamp (show o < 2 ^ 31 by omega), y_inN (show k < 54 by omega) (by decide), nI_clamp (show k < 2 ^ 31 by omega), ek, eo, m_areNear, e52, en, y_bit, nI_1, if_true, if_false, not_true_eq_false, not_false_eq_true, and_true, true_and, and_false, false_and, and_self, or_true, true_or, or_false, false_or, reduceIte, iff_self, Int32.add_zero, y_10, Classical.not_not]
    rw [cnt_s]
    have hnr : nrp f o k = true ↔ (k ≠ o ∧ nb (f k) (f o) (f 52)) := decide_eq_true_iff
    by_cases hko : k = o
    · rw [if_neg (fun z => (hnr.mp z).1 hko)]
      simp only [hko, Nat.add_zero, if_true, if_false, not_true_eq_false, not_false_eq_true, and_true, true_and, and_false, false_and, and_self, or_true, true_or, or_false, false_or, reduceIte, iff_self, Int32.add_zero, y_10, Classical.not_not]
    · by_cases hnb : nb (f o) (f k) (f 52)
      · rw [if_pos (hnr.mpr ⟨hko, hnb.2, hnb.1⟩)]
        have hnn : ¬ ¬ nb (f o) (f k) (f 52) := fun z => z hnb
        simp only [hko, if_neg hnn, if_true, if_false, not_true_eq_false, not_false_eq_true, and_true, true_and, and_false, false_and, and_self, or_true, true_or, or_false, false_or, reduceIte, iff_self, Int32.add_zero, y_10, Classical.not_not]
      · rw [if_neg (fun z => hnb ⟨(hnr.mp z).2.2, (hnr.mp z).2.1⟩)]
        simp only [hko, if_pos hnb, Nat.add_zero, if_true, if_false, not_true_eq_false, not_false_eq_true, and_true, true_and, and_false, false_and, and_self, or_true, true_or, or_false, false_or, reduceIte, iff_self, Int32.add_zero, y_10, Classical.not_not]
end
