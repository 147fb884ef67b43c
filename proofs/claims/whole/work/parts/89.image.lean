/-! both answer alike: image, back -/
theorem ta_at {q : Nat} {g : Nat → Nat} {I : sm_I} (hT : cTa q g I) {k : Nat} (h1 : 24 ≤ k) (h2 : k < 54) (h3 : k ≠ 52) : I (q + (clq k - 40)) (clb k) = nI (g k) := by
  rcases nm_c h2 with ⟨p, hp, rfl⟩ | ⟨p, hp, rfl⟩ | ⟨p, hp, rfl⟩ | ⟨p, hp, rfl⟩ | ⟨p, hp, rfl⟩ | ⟨p, hp, rfl⟩ | rfl | rfl
  · omega
  · omega
  · omega
  · obtain ⟨q1, q2, q3, q4, q5⟩ := (nm_p ⟨p, hp⟩).2.2.2.1
    rw [q3, q4]
    exact (hT.1 p hp).1
  · obtain ⟨q1, q2, q3, q4, q5⟩ := (nm_p ⟨p, hp⟩).2.2.2.2
    rw [q3, q4]
    exact (hT.1 p hp).2
  · obtain ⟨q1, q2, q3, q4, q5⟩ := nm_d ⟨p, hp⟩
    rw [q3, q4]
    exact hT.2.1 p hp
  · omega
  · exact hT.2.2
theorem ta_of {q : Nat} {g : Nat → Nat} {I : sm_I} (h : ∀ k, 24 ≤ k → k < 54 → k ≠ 52 → I (q + (clq k - 40)) (clb k) = nI (g k)) : cTa q g I := by
  refine ⟨fun p hp => ⟨?_, ?_⟩, fun p hp => ?_, ?_⟩
  · obtain ⟨q1, q2, q3, q4, q5⟩ := (nm_p ⟨p, hp⟩).2.2.2.1
    have := h (24 + p) (by omega) (by omega) (by omega)
    rw [q3, q4] at this
    exact this
  · obtain ⟨q1, q2, q3, q4, q5⟩ := (nm_p ⟨p, hp⟩).2.2.2.2
    have := h (32 + p) (by omega) (by omega) (by omega)
    rw [q3, q4] at this
    exact this
  · obtain ⟨q1, q2, q3, q4, q5⟩ := nm_d ⟨p, hp⟩
    have := h (40 + p) (by omega) (by omega) (by omega)
    rw [q3, q4] at this
    exact this
  · exact h 53 (by omega) (by omega) (by omega)
theorem clq_40 {k : Nat} (h1 : 24 ≤ k) (h2 : k < 54) (h3 : k ≠ 52) : 40 ≤ clq k ∧ clq k < 44 := by
  have : ∀ k, k < 54 → 24 ≤ k → k ≠ 52 → 40 ≤ clq k ∧ clq k < 44 := by decide
  exact this k h2 h1 h3
theorem Inv_6 {xs : Nat → Int32} {P D B : Nat} {I I' : sm_I} {J : sm_J} (h1 : iv_ro xs I) (h2 : iv_fo P D I) (h3 : iv_ch P I) (h4 : iv_ta I) (h5 : iv_la I) (h7 : iv_tu B I) (h8 : iv_sh B I J) (hf : ∀ x c, ¬ ((48 ≤ x ∧ x < 54) ∨ x = 59 ∨ (121 ≤ x ∧ x < 124) ∨ (x = 103 ∧ (c = 33 ∨ c = 34 ∨ c = 35))) → I' x c = I x c) (k6 : iv_im P D I') : Inv xs I' J := by
  have e : ∀ g, g ≠ 6 → ∀ q b, rg q b = g → I' q b = I q b := fun g hg q b hr => hf q b (fun z => hg (by rw [← hr]; exact rg6 z))
  exact ⟨P, D, B, iv_ro_g h1 (e 1 (by decide)), iv_fo_g h2 (e 2 (by decide)), iv_ch_g h3 (Nat.le_refl _) (e 3 (by decide)), iv_ta_f h4 (e 4 (by decide)), iv_la_f h5 (e 5 (by decide)), k6, iv_tu_g h7 (e 7 (by decide)), iv_sh_g h8 (Nat.le_refl _) (e 8 (by decide)) (fun _ _ _ => rfl)⟩
theorem m_im_lp1 {I : sm_I} (d n : Nat) (J : sm_J) (K : Option Value → sm_H → Prop) : ∀ (w i : Nat), i + w = 54 → ∀ I1 : sm_I, (∀ x c, ¬ x = 122 → I1 x c = I x c) → (∀ j, j < i → I1 122 j = I 104 j) →
    (∀ I', (∀ x c, ¬ x = 122 → I' x c = I x c) → (∀ j, j < 54 → I' 122 j = I 104 j) → sm_Ok d 217 47 [.ref 103, .int (nI 54)] [] (sm_SH n, I', J) K) →
    sm_Ok d 217 23 [.ref 103, .int (nI i)] [] (sm_SH n, I1, J) K
  | 0, i, h, I1, f1, f2, hK => by
    have hi : i = 54 := by omega
    subst hi
    have e : (53 : Int32) < nI 54 := by decide
    rw [z217_23]
    simp only [z217_24, z217_26, sm_cti, sm_ctr, sm_ctn, sm_nbi, Option.toList_some, Option.toList_none, List.cons_append, List.nil_append, ne_eq, reduceCtorEq, not_false_eq_true, Nat.reduceLeDiff, e, if_true, if_false, not_true_eq_false, not_false_eq_true, and_true, true_and, and_false, false_and, and_self, or_true, true_or, or_false, false_or, reduceIte, iff_self, Int32.add_zero, y_10, Classical.not_not]
    exact hK I1 f1 f2
  | w + 1, i, h, I1, f1, f2, hK => by
    have e : ¬ (53 : Int32) < nI i := nI_nlt (a := 53) (by omega) (by omega)
    rw [z217_23]
    simp only [z217_1, z217_2, z217_5, z217_6, z217_7, z217_10, z217_13, z217_14, z217_15, z217_18, z217_21, z217_22, z217_24, z217_26, z217_29, z217_30, z217_33, z217_34, z217_35, z217_38, z217_39, z217_40, z217_41, z217_44, z217_47, z217_48, z217_50, z217_51, z217_54, z217_55, z217_58, z217_59, z217_60, z217_63, z217_64, z217_65, z217_66, z217_69, z217_72, z217_73, z217_76, z217_77, z217_78, sm_cti, sm_ctr, sm_ctn, sm_nbi, Option.toList_some, Option.toList_none, List.cons_append, List.nil_append, ne_eq, reduceCtorEq, not_false_eq_true, Nat.reduceLeDiff, kc103, kc104, kc122, rf103_0, rf103_36, e, nI_1, y_inN (show i < 54 by omega) (by decide), nI_clamp (show i < 2 ^ 31 by omega), if_true, if_false, not_true_eq_false, not_false_eq_true, and_true, true_and, and_false, false_and, and_self, or_true, true_or, or_false, false_or, reduceIte, iff_self, Int32.add_zero, y_10, Classical.not_not]
    refine m_im_lp1 d n J K w (i + 1) (by omega) _ (fun x c hx => by rw [uI_q _ _ hx, f1 x c hx]) (fun j hj => ?_) hK
    by_cases hji : j = i
    · subst hji
      rw [uI_s, f1 _ _ (by omega)]
    · rw [uI_o _ _ (by omega), f2 j (by omega)]
theorem m_im_lp2 {I : sm_I} (d n : Nat) (J : sm_J) (K : Option Value → sm_H → Prop) : ∀ (w i : Nat), i + w = 5 → ∀ I1 : sm_I, (∀ x c, ¬ x = 123 → I1 x c = I x c) → (∀ j, j < i → I1 123 j = I 121 j) →
    (∀ I', (∀ x c, ¬ x = 123 → I' x c = I x c) → (∀ j, j < 5 → I' 123 j = I 121 j) → K (some (.int (I 121 0))) (sm_SH n, I', J)) →
    sm_Ok d 217 49 [.ref 103, .int (nI i)] [] (sm_SH n, I1, J) K
  | 0, i, h, I1, f1, f2, hK => by
    have hi : i = 5 := by omega
    subst hi
    have e : (5 : Int32) ≤ nI 5 := by decide
    have i0 : sm_in 0 5 = true := by decide
    have c0 : (0 : Int32).toNatClampNeg = 0 := by decide
    have e0 : I1 121 0 = I 121 0 := f1 _ _ (by omega)
    rw [z217_49]
    simp only [z217_1, z217_2, z217_5, z217_6, z217_7, z217_10, z217_13, z217_14, z217_15, z217_18, z217_21, z217_22, z217_24, z217_26, z217_29, z217_30, z217_33, z217_34, z217_35, z217_38, z217_39, z217_40, z217_41, z217_44, z217_47, z217_48, z217_50, z217_51, z217_54, z217_55, z217_58, z217_59, z217_60, z217_63, z217_64, z217_65, z217_66, z217_69, z217_72, z217_73, z217_76, z217_77, z217_78, sm_cti, sm_ctr, sm_ctn, sm_nbi, Option.toList_some, Option.toList_none, List.cons_append, List.nil_append, ne_eq, reduceCtorEq, not_false_eq_true, Nat.reduceLeDiff, kc103, kc121, rf103_32, e, i0, c0, e0, if_true, if_false, not_true_eq_false, not_false_eq_true, and_true, true_and, and_false, false_and, and_self, or_true, true_or, or_false, false_or, reduceIte, iff_self, Int32.add_zero, y_10, Classical.not_not]
    exact hK I1 f1 f2
  | w + 1, i, h, I1, f1, f2, hK => by
    have e : ¬ (5 : Int32) ≤ nI i := nI_ge (b := 5) (by omega) (by decide)
    rw [z217_49]
    simp only [z217_1, z217_2, z217_5, z217_6, z217_7, z217_10, z217_13, z217_14, z217_15, z217_18, z217_21, z217_22, z217_24, z217_26, z217_29, z217_30, z217_33, z217_34, z217_35, z217_38, z217_39, z217_40, z217_41, z217_44, z217_47, z217_48, z217_50, z217_51, z217_54, z217_55, z217_58, z217_59, z217_60, z217_63, z217_64, z217_65, z217_66, z217_69, z217_72, z217_73, z217_76, z217_77, z217_78, sm_cti, sm_ctr, sm_ctn, sm_nbi, Option.toList_some, Option.toList_none, List.cons_append, List.nil_append, ne_eq, reduceCtorEq, not_false_eq_true, Nat.reduceLeDiff, kc103, kc121, kc123, rf103_32, rf103_37, e, nI_1, y_inN (show i < 5 by omega) (by decide), nI_clamp (show i < 2 ^ 31 by omega), if_true, if_false, not_true_eq_false, not_false_eq_true, and_true, true_and, and_false, false_and, and_self, or_true, true_or, or_false, false_or, reduceIte, iff_self, Int32.add_zero, y_10, Classical.not_not]
    refine m_im_lp2 d n J K w (i + 1) (by omega) _ (fun x c hx => by rw [uI_q _ _ hx, f1 x c hx]) (fun j hj => ?_) hK
    by_cases hji : j = i
    · subst hji
      rw [uI_s, f1 _ _ (by omega)]
    · rw [uI_o _ _ (by omega), f2 j (by omega)]
theorem cI_0 (I : sm_I) (s t n c : Nat) (h : c < n) : sm_cI I s t 0 0 n t c = I s c := by
  unfold sm_cI va_cpy
  rw [if_pos rfl, if_pos ⟨Nat.zero_le _, by omega⟩, Nat.sub_zero, Nat.zero_add]
theorem pw_image {n : Nat} {xs : Nat → Int32} {I : sm_I} {J : sm_J} (hI : Inv xs I J) : pw n I J 112 [.ref 26] 217 [.ref 103, .null] (fun I2 J2 => Inv xs I2 J2) := by
  obtain ⟨P, D, B, i1, i2, i3, i4, i5, i6, i7, i8⟩ := id hI
  obtain ⟨f, a, b, hb, cF, cT, mF, hz⟩ := fo_pure i2
  have i0 : sm_in 0 5 = true := by decide
  have c0 : (0 : Int32).toNatClampNeg = 0 := by decide
  have c5 : (5 : Int32).toNatClampNeg = 5 := by decide
  have z0 : ¬ (0 : Int32) < 0 := by decide
  have z5 : ¬ (5 : Int32) < 0 := by decide
  have l5 : (0 + 5 ≤ 5) = True := by decide
  have g1 : (26 ≤ 59) = True := by decide
  have g2 : (26 ≤ 53) = True := by decide
  have u1 : ∀ v, sm_uI I 48 2 v 34 7 = I 34 7 := fun v => uI_q _ _ (by decide)
  intro d K hK
  simp only [z112_0, z112_1, z112_4, z112_5, z112_8, z112_9, z112_12, z112_13, z112_16, z112_19, z112_20, z112_23, z112_24, z112_25, z22_0, z22_1, z22_2, z22_5, z22_8, z22_9, z22_10, z22_13, z22_16, z22_17, z22_20, z22_21, z22_24, z22_25, z22_26, z22_27, z22_30, z22_31, z22_32, z22_35, z22_36, z22_37, z22_40, sm_cti, sm_ctr, sm_ctn, sm_nbi, Option.toList_some, Option.toList_none, List.cons_append, List.nil_append, ne_eq, reduceCtorEq, not_false_eq_true, Nat.reduceLeDiff, kc26, kc34, kc48, rc48, rc49, rf26_2, rf26_3, rf26_5, rf26_7, rf48_0, cF.1, cF.2.1, u1, if_true, if_false, not_true_eq_false, not_false_eq_true, and_true, true_and, and_false, false_and, and_self, or_true, true_or, or_false, false_or, reduceIte, iff_self, Int32.add_zero, y_10, Classical.not_not]
  refine c_bec (q := 40) (r := 49) (Or.inl rfl) (Or.inr (Or.inr (Or.inl rfl))) (by decide) (cTa_f cT (fun x c h1 h2 => by rw [uI_q _ _ (by omega), uI_q _ _ (by omega)])) (d + 197) n J _ (fun I1 w1 t1 => ?_)
  have u2 : ∀ (A : sm_I) v, sm_uI A 48 4 v 59 0 = A 59 0 := fun A v => uI_q _ _ (by decide)
  have u3 : ∀ (A : sm_I), sm_cI A 59 53 0 0 5 59 0 = A 59 0 := fun A => cI_o _ _ (by decide)
  simp only [z112_0, z112_1, z112_4, z112_5, z112_8, z112_9, z112_12, z112_13, z112_16, z112_19, z112_20, z112_23, z112_24, z112_25, z22_0, z22_1, z22_2, z22_5, z22_8, z22_9, z22_10, z22_13, z22_16, z22_17, z22_20, z22_21, z22_24, z22_25, z22_26, z22_27, z22_30, z22_31, z22_32, z22_35, z22_36, z22_37, z22_40, sm_cti, sm_ctr, sm_ctn, sm_nbi, Option.toList_some, Option.toList_none, List.cons_append, List.nil_append, ne_eq, reduceCtorEq, not_false_eq_true, Nat.reduceLeDiff, kc26, kc48, kc53, kc59, rf26_7, rf48_1, i0, c0, c5, z0, z5, l5, g1, g2, u2, u3, if_true, if_false, not_true_eq_false, not_false_eq_true, and_true, true_and, and_false, false_and, and_self, or_true, true_or, or_false, false_or, reduceIte, iff_self, Int32.add_zero, y_10, Classical.not_not]
  refine hK _ _ J (fun K2 h3 => ?_)
  have v1 : ∀ x c, ¬ (48 ≤ x ∧ x < 54) → sm_uI (sm_cI I1 59 53 0 0 5) 48 4 1 x c = I x c := fun x c hx => by rw [uI_q _ _ (by omega), cI_o _ _ (by omega), w1 _ _ (by omega), uI_q _ _ (by omega), uI_q _ _ (by omega)]
  have v2 : sm_uI (sm_cI I1 59 53 0 0 5) 48 4 1 48 2 = nI P := by rw [uI_o _ _ (by omega), cI_o _ _ (by omega), w1 _ _ (by omega), uI_o _ _ (by omega), uI_s]
  have v3 : sm_uI (sm_cI I1 59 53 0 0 5) 48 4 1 48 3 = nI D := by rw [uI_o _ _ (by omega), cI_o _ _ (by omega), w1 _ _ (by omega), uI_s]
  have v4 : sm_uI (sm_cI I1 59 53 0 0 5) 48 4 1 48 4 = 1 := uI_s _ _ _ _
  have v5 : ∀ k, k < 5 → sm_uI (sm_cI I1 59 53 0 0 5) 48 4 1 53 k = I 59 k := fun k hk => by rw [uI_q _ _ (by omega), cI_0 _ _ _ _ _ hk, w1 _ _ (by omega), uI_q _ _ (by omega), uI_q _ _ (by omega)]
  have t2 : cTa 49 f (sm_uI (sm_cI I1 59 53 0 0 5) 48 4 1) := cTa_f t1 (fun x c h1 h2 => by rw [uI_q _ _ (by omega), cI_o _ _ (by omega)])
  have ans : I1 59 0 = I 59 0 := by rw [w1 _ _ (by omega), uI_q _ _ (by omega), uI_q _ _ (by omega)]
  generalize sm_uI (sm_cI I1 59 53 0 0 5) 48 4 1 = I2 at *
  have M6 : I2 103 6 = nI P := by rw [v1 _ _ (by omega), mF.1]
  have M7 : I2 103 7 = nI D := by rw [v1 _ _ (by omega), mF.2.1]
  have y6 : ∀ v, sm_uI I2 103 33 v 103 6 = nI P := fun v => by rw [uI_o _ _ (by omega), M6]
  have y7 : ∀ v w, sm_uI (sm_uI I2 103 33 v) 103 34 w 103 7 = nI D := fun v w => by rw [uI_o _ _ (by omega), uI_o _ _ (by omega), M7]
  have n0 : (0 : Int32) = nI 0 := rfl
  simp only [z217_0, z217_1, z217_2, z217_5, z217_6, z217_7, z217_10, z217_13, z217_14, z217_15, z217_18, z217_21, z217_22, sm_cti, sm_ctr, sm_ctn, sm_nbi, Option.toList_some, Option.toList_none, List.cons_append, List.nil_append, ne_eq, reduceCtorEq, not_false_eq_true, Nat.reduceLeDiff, kc103, y6, y7, if_true, if_false, not_true_eq_false, not_false_eq_true, and_true, true_and, and_false, false_and, and_self, or_true, true_or, or_false, false_or, reduceIte, iff_self, Int32.add_zero, y_10, Classical.not_not]
  rw [n0]
  refine m_im_lp1 _ n J K2 54 0 rfl _ (fun _ _ _ => rfl) (fun j hj => absurd hj (Nat.not_lt_zero _)) (fun I3 w3 w4 => ?_)
  simp only [z217_47, z217_48, sm_cti, sm_ctr, sm_ctn, sm_nbi, Option.toList_some, Option.toList_none, List.cons_append, List.nil_append, ne_eq, reduceCtorEq, not_false_eq_true, Nat.reduceLeDiff, if_true, if_false, not_true_eq_false, not_false_eq_true, and_true, true_and, and_false, false_and, and_self, or_true, true_or, or_false, false_or, reduceIte, iff_self, Int32.add_zero, y_10, Classical.not_not]
  rw [n0]
  refine m_im_lp2 (I := I3) _ n J K2 5 0 rfl I3 (fun _ _ _ => rfl) (fun j hj => absurd hj (Nat.not_lt_zero _)) (fun I4 w5 w6 => ?_)
  have t : ∀ x c, ¬ ((48 ≤ x ∧ x < 54) ∨ x = 122 ∨ x = 123 ∨ (x = 103 ∧ (c = 33 ∨ c = 34 ∨ c = 35))) → I4 x c = I x c := fun x c hx => by rw [w5 _ _ (by omega), w3 _ _ (by omega), uI_o _ _ (by omega), uI_o _ _ (by omega), uI_o _ _ (by omega), v1 _ _ (by omega)]
  have s : ∀ x c, (48 ≤ x ∧ x < 54) → I4 x c = I2 x c := fun x c hx => by rw [w5 _ _ (by omega), w3 _ _ (by omega), uI_o _ _ (by omega), uI_o _ _ (by omega), uI_o _ _ (by omega)]
  have e121 : ∀ k, I3 121 k = I 121 k := fun k => by rw [w3 _ _ (by omega), uI_q _ _ (by omega), uI_q _ _ (by omega), uI_q _ _ (by omega), v1 _ _ (by omega)]
  have e104 : ∀ j, j < 54 → I4 122 j = nI (f j) := fun j hj => by rw [w5 _ _ (by omega), w4 j hj, uI_q _ _ (by omega), uI_q _ _ (by omega), uI_q _ _ (by omega), v1 _ _ (by omega), mF.2.2.1 j hj]
  rw [e121, ← i6.1 0 (by decide), ← ans]
  refine h3 I4 J (Inv_6 i1 i2 i3 i4 i5 i7 i8 (fun x c hx => t x c (by omega)) ⟨fun k hk => by rw [t _ _ (by omega), t _ _ (by omega), i6.1 k hk], Or.inr ⟨by rw [s _ _ (by omega), v4], ?_, P, D, Nat.le_refl _, Nat.le_refl _, by rw [s _ _ (by omega), v2], ?_, by rw [s _ _ (by omega), v3], ?_, fun k k1 k2 k3 => ⟨?_, f k, hb.2.2.1 k k2, e104 k k2⟩, fun k hk => by rw [s _ _ (by omega), v5 k hk, w6 k hk, e121, i6.1 k hk]⟩⟩)
  · rw [w5 _ _ (by omega), w3 _ _ (by omega), uI_o _ _ (by omega), uI_o _ _ (by omega), uI_s]
  · rw [w5 _ _ (by omega), w3 _ _ (by omega), uI_o _ _ (by omega), uI_s]
  · rw [w5 _ _ (by omega), w3 _ _ (by omega), uI_s]
  · have hq := clq_40 k1 k2 k3
    rw [e104 k k2, s _ _ (by omega), ← ta_at t2 k1 k2 k3, show 49 + (clq k - 40) = clq k + 9 by omega]
theorem m_bk_lp1 {I : sm_I} {p : Nat} (hp : p ≤ 8) (h34 : I 103 34 = nI p) (d n : Nat) (J : sm_J) (K : Option Value → sm_H → Prop) : ∀ (w i : Nat), i + w = p → ∀ I1 : sm_I, (∀ x c, ¬ x = 104 → I1 x c = I x c) → (∀ j, I1 104 j = if (24 ≤ j ∧ j < 24 + i) ∨ (32 ≤ j ∧ j < 32 + i) then I 122 j else I 104 j) →
    (∀ I', (∀ x c, ¬ x = 104 → I' x c = I x c) → (∀ j, I' 104 j = if (24 ≤ j ∧ j < 24 + p) ∨ (32 ≤ j ∧ j < 32 + p) then I 122 j else I 104 j) → sm_Ok d 218 62 [.ref 103, .int (nI p)] [] (sm_SH n, I', J) K) →
    sm_Ok d 218 12 [.ref 103, .int (nI i)] [] (sm_SH n, I1, J) K
  | 0, i, h, I1, f1, f2, hK => by
    have hi : i = p := by omega
    subst hi
    have e : I1 103 34 = nI i := by rw [f1 _ _ (by omega), h34]
    rw [z218_12]
    simp only [z218_13, z218_14, z218_17, sm_cti, sm_ctr, sm_ctn, sm_nbi, Option.toList_some, Option.toList_none, List.cons_append, List.nil_append, ne_eq, reduceCtorEq, not_false_eq_true, Nat.reduceLeDiff, kc103, e, Int32.le_refl, if_true, if_false, not_true_eq_false, not_false_eq_true, and_true, true_and, and_false, false_and, and_self, or_true, true_or, or_false, false_or, reduceIte, iff_self, Int32.add_zero, y_10, Classical.not_not]
    exact hK I1 f1 f2
  | w + 1, i, h, I1, f1, f2, hK => by
    have e : I1 103 34 = nI p := by rw [f1 _ _ (by omega), h34]
    have e2 : ¬ nI p ≤ nI i := nI_ge (by omega) (by omega)
    have a24 : (24 : Int32) + nI i = nI (24 + i) := nI_add 24 i
    have a32 : (32 : Int32) + nI i = nI (32 + i) := nI_add 32 i
    have r1 : I1 122 (24 + i) = I 122 (24 + i) := f1 _ _ (by omega)
    have r2 : ∀ v, sm_uI I1 104 (24 + i) v 122 (32 + i) = I 122 (32 + i) := fun v => by rw [uI_q _ _ (by omega), f1 _ _ (by omega)]
    rw [z218_12]
    simp only [z218_1, z218_4, z218_7, z218_9, z218_10, z218_11, z218_13, z218_14, z218_17, z218_20, z218_21, z218_24, z218_26, z218_27, z218_28, z218_29, z218_32, z218_34, z218_35, z218_36, z218_37, z218_38, z218_39, z218_42, z218_44, z218_45, z218_46, z218_47, z218_50, z218_52, z218_53, z218_54, z218_55, z218_56, z218_59, z218_62, z218_63, z218_65, z218_66, z218_69, z218_72, z218_73, z218_76, z218_78, z218_79, z218_80, z218_81, z218_84, z218_86, z218_87, z218_88, z218_89, z218_90, z218_93, z218_96, z218_97, z218_100, z218_102, z218_103, z218_106, z218_108, z218_109, z218_110, z218_111, z218_113, z218_114, z218_117, z218_118, z218_121, z218_122, z218_123, z218_126, z218_127, z218_128, z218_129, z218_132, z218_135, z218_136, z218_139, z218_140, z218_141, sm_cti, sm_ctr, sm_ctn, sm_nbi, Option.toList_some, Option.toList_none, List.cons_append, List.nil_append, ne_eq, reduceCtorEq, not_false_eq_true, Nat.reduceLeDiff, kc103, kc104, kc122, rf103_0, rf103_36, e, e2, a24, a32, r1, r2, nI_1, y_inN (show 24 + i < 54 by omega) (by decide), nI_clamp (show 24 + i < 2 ^ 31 by omega), y_inN (show 32 + i < 54 by omega) (by decide), nI_clamp (show 32 + i < 2 ^ 31 by omega), if_true, if_false, not_true_eq_false, not_false_eq_true, and_true, true_and, and_false, false_and, and_self, or_true, true_or, or_false, false_or, reduceIte, iff_self, Int32.add_zero, y_10, Classical.not_not]
    refine m_bk_lp1 hp h34 d n J K w (i + 1) (by omega) _ (fun x c hx => by rw [uI_q _ _ hx, uI_q _ _ hx, f1 x c hx]) (fun j => ?_) hK
    by_cases h1 : j = 32 + i
    · subst h1
      rw [uI_s, if_pos (by omega)]
    · rw [uI_o _ _ (by omega)]
      by_cases h2 : j = 24 + i
      · subst h2
        rw [uI_s, if_pos (by omega)]
      · rw [uI_o _ _ (by omega), f2 j]
        by_cases h3 : (24 ≤ j ∧ j < 24 + i) ∨ (32 ≤ j ∧ j < 32 + i)
        · rw [if_pos h3, if_pos (by omega)]
        · rw [if_neg h3, if_neg (by omega)]
theorem m_bk_lp2 {I : sm_I} {p : Nat} (hp : p ≤ 12) (h35 : I 103 35 = nI p) (d n : Nat) (J : sm_J) (K : Option Value → sm_H → Prop) : ∀ (w i : Nat), i + w = p → ∀ I1 : sm_I, (∀ x c, ¬ x = 104 → I1 x c = I x c) → (∀ j, I1 104 j = if 40 ≤ j ∧ j < 40 + i then I 122 j else I 104 j) →
    (∀ I', (∀ x c, ¬ x = 104 → I' x c = I x c) → (∀ j, I' 104 j = if 40 ≤ j ∧ j < 40 + p then I 122 j else I 104 j) → sm_Ok d 218 96 [.ref 103, .int (nI p)] [] (sm_SH n, I', J) K) →
    sm_Ok d 218 64 [.ref 103, .int (nI i)] [] (sm_SH n, I1, J) K
  | 0, i, h, I1, f1, f2, hK => by
    have hi : i = p := by omega
    subst hi
    have e : I1 103 35 = nI i := by rw [f1 _ _ (by omega), h35]
    rw [z218_64]
    simp only [z218_65, z218_66, z218_69, sm_cti, sm_ctr, sm_ctn, sm_nbi, Option.toList_some, Option.toList_none, List.cons_append, List.nil_append, ne_eq, reduceCtorEq, not_false_eq_true, Nat.reduceLeDiff, kc103, e, Int32.le_refl, if_true, if_false, not_true_eq_false, not_false_eq_true, and_true, true_and, and_false, false_and, and_self, or_true, true_or, or_false, false_or, reduceIte, iff_self, Int32.add_zero, y_10, Classical.not_not]
    exact hK I1 f1 f2
  | w + 1, i, h, I1, f1, f2, hK => by
    have e : I1 103 35 = nI p := by rw [f1 _ _ (by omega), h35]
    have e2 : ¬ nI p ≤ nI i := nI_ge (by omega) (by omega)
    have a40 : (40 : Int32) + nI i = nI (40 + i) := nI_add 40 i
    have r1 : I1 122 (40 + i) = I 122 (40 + i) := f1 _ _ (by omega)
    rw [z218_64]
    simp only [z218_1, z218_4, z218_7, z218_9, z218_10, z218_11, z218_13, z218_14, z218_17, z218_20, z218_21, z218_24, z218_26, z218_27, z218_28, z218_29, z218_32, z218_34, z218_35, z218_36, z218_37, z218_38, z218_39, z218_42, z218_44, z218_45, z218_46, z218_47, z218_50, z218_52, z218_53, z218_54, z218_55, z218_56, z218_59, z218_62, z218_63, z218_65, z218_66, z218_69, z218_72, z218_73, z218_76, z218_78, z218_79, z218_80, z218_81, z218_84, z218_86, z218_87, z218_88, z218_89, z218_90, z218_93, z218_96, z218_97, z218_100, z218_102, z218_103, z218_106, z218_108, z218_109, z218_110, z218_111, z218_113, z218_114, z218_117, z218_118, z218_121, z218_122, z218_123, z218_126, z218_127, z218_128, z218_129, z218_132, z218_135, z218_136, z218_139, z218_140, z218_141, sm_cti, sm_ctr, sm_ctn, sm_nbi, Option.toList_some, Option.toList_none, List.cons_append, List.nil_append, ne_eq, reduceCtorEq, not_false_eq_true, Nat.reduceLeDiff, kc103, kc104, kc122, rf103_0, rf103_36, e, e2, a40, r1, nI_1, y_inN (show 40 + i < 54 by omega) (by decide), nI_clamp (show 40 + i < 2 ^ 31 by omega), if_true, if_false, not_true_eq_false, not_false_eq_true, and_true, true_and, and_false, false_and, and_self, or_true, true_or, or_false, false_or, reduceIte, iff_self, Int32.add_zero, y_10, Classical.not_not]
    refine m_bk_lp2 hp h35 d n J K w (i + 1) (by omega) _ (fun x c hx => by rw [uI_q _ _ hx, f1 x c hx]) (fun j => ?_) hK
    by_cases h1 : j = 40 + i
    · subst h1
      rw [uI_s, if_pos (by omega)]
    · rw [uI_o _ _ (by omega), f2 j]
      by_cases h3 : 40 ≤ j ∧ j < 40 + i
      · rw [if_pos h3, if_pos (by omega)]
      · rw [if_neg h3, if_neg (by omega)]
theorem m_bk_lp3 {I : sm_I} (d n : Nat) (J : sm_J) (K : Option Value → sm_H → Prop) : ∀ (w i : Nat), i + w = 5 → ∀ I1 : sm_I, (∀ x c, ¬ x = 121 → I1 x c = I x c) → (∀ j, j < i → I1 121 j = I 123 j) →
    (∀ I', (∀ x c, ¬ x = 121 → I' x c = I x c) → (∀ j, j < 5 → I' 121 j = I 123 j) → K (some (.int (I 123 0))) (sm_SH n, I', J)) →
    sm_Ok d 218 112 [.ref 103, .int (nI i)] [] (sm_SH n, I1, J) K
  | 0, i, h, I1, f1, f2, hK => by
    have hi : i = 5 := by omega
    subst hi
    have e : (5 : Int32) ≤ nI 5 := by decide
    have i0 : sm_in 0 5 = true := by decide
    have c0 : (0 : Int32).toNatClampNeg = 0 := by decide
    have e0 : I1 121 0 = I 123 0 := f2 _ (by omega)
    rw [z218_112]
    simp only [z218_1, z218_4, z218_7, z218_9, z218_10, z218_11, z218_13, z218_14, z218_17, z218_20, z218_21, z218_24, z218_26, z218_27, z218_28, z218_29, z218_32, z218_34, z218_35, z218_36, z218_37, z218_38, z218_39, z218_42, z218_44, z218_45, z218_46, z218_47, z218_50, z218_52, z218_53, z218_54, z218_55, z218_56, z218_59, z218_62, z218_63, z218_65, z218_66, z218_69, z218_72, z218_73, z218_76, z218_78, z218_79, z218_80, z218_81, z218_84, z218_86, z218_87, z218_88, z218_89, z218_90, z218_93, z218_96, z218_97, z218_100, z218_102, z218_103, z218_106, z218_108, z218_109, z218_110, z218_111, z218_113, z218_114, z218_117, z218_118, z218_121, z218_122, z218_123, z218_126, z218_127, z218_128, z218_129, z218_132, z218_135, z218_136, z218_139, z218_140, z218_141, sm_cti, sm_ctr, sm_ctn, sm_nbi, Option.toList_some, Option.toList_none, List.cons_append, List.nil_append, ne_eq, reduceCtorEq, not_false_eq_true, Nat.reduceLeDiff, kc103, kc121, rf103_32, e, i0, c0, e0, if_true, if_false, not_true_eq_false, not_false_eq_true, and_true, true_and, and_false, false_and, and_self, or_true, true_or, or_false, false_or, reduceIte, iff_self, Int32.add_zero, y_10, Classical.not_not]
    exact hK I1 f1 f2
  | w + 1, i, h, I1, f1, f2, hK => by
    have e : ¬ (5 : Int32) ≤ nI i := nI_ge (b := 5) (by omega) (by decide)
    rw [z218_112]
    simp only [z218_1, z218_4, z218_7, z218_9, z218_10, z218_11, z218_13, z218_14, z218_17, z218_20, z218_21, z218_24, z218_26, z218_27, z218_28, z218_29, z218_32, z218_34, z218_35, z218_36, z218_37, z218_38, z218_39, z218_42, z218_44, z218_45, z218_46, z218_47, z218_50, z218_52, z218_53, z218_54, z218_55, z218_56, z218_59, z218_62, z218_63, z218_65, z218_66, z218_69, z218_72, z218_73, z218_76, z218_78, z218_79, z218_80, z218_81, z218_84, z218_86, z218_87, z218_88, z218_89, z218_90, z218_93, z218_96, z218_97, z218_100, z218_102, z218_103, z218_106, z218_108, z218_109, z218_110, z218_111, z218_113, z218_114, z218_117, z218_118, z218_121, z218_122, z218_123, z218_126, z218_127, z218_128, z218_129, z218_132, z218_135, z218_136, z218_139, z218_140, z218_141, sm_cti, sm_ctr, sm_ctn, sm_nbi, Option.toList_some, Option.toList_none, List.cons_append, List.nil_append, ne_eq, reduceCtorEq, not_false_eq_true, Nat.reduceLeDiff, kc103, kc121, kc123, rf103_32, rf103_37, e, nI_1, y_inN (show i < 5 by omega) (by decide), nI_clamp (show i < 2 ^ 31 by omega), if_true, if_false, not_true_eq_false, not_false_eq_true, and_true, true_and, and_false, false_and, and_self, or_true, true_or, or_false, false_or, reduceIte, iff_self, Int32.add_zero, y_10, Classical.not_not]
    refine m_bk_lp3 d n J K w (i + 1) (by omega) _ (fun x c hx => by rw [uI_q _ _ hx, f1 x c hx]) (fun j hj => ?_) hK
    by_cases hji : j = i
    · subst hji
      rw [uI_s, f1 _ _ (by omega)]
    · rw [uI_o _ _ (by omega), f2 j (by omega)]
theorem pw_back {n : Nat} {xs : Nat → Int32} {I : sm_I} {J : sm_J} (hI : Inv xs I J) : pw n I J 113 [.ref 26] 218 [.ref 103, .null] (fun I2 J2 => Inv xs I2 J2) := by
  obtain ⟨P, D, B, i1, i2, i3, i4, i5, i6, i7, i8⟩ := id hI
  intro d K hK
  rcases i6.2 with ⟨h1, h2⟩ | ⟨h1, h2, p, e, hp, he, h5, h6, h7, h8, h9, h10⟩
  · simp only [z113_0, z113_1, z113_4, z113_7, z113_10, z113_12, z113_13, z113_14, z113_17, z113_18, z113_21, z113_22, z113_25, z113_28, z113_29, z113_32, z113_33, z113_34, sm_cti, sm_ctr, sm_ctn, sm_nbi, Option.toList_some, Option.toList_none, List.cons_append, List.nil_append, ne_eq, reduceCtorEq, not_false_eq_true, Nat.reduceLeDiff, kc26, kc48, rf26_5, h1, if_true, if_false, not_true_eq_false, not_false_eq_true, and_true, true_and, and_false, false_and, and_self, or_true, true_or, or_false, false_or, reduceIte, iff_self, Int32.add_zero, y_10, Classical.not_not]
    refine hK _ I J (fun K2 h3 => ?_)
    simp only [z218_0, z218_1, z218_4, z218_7, z218_9, z218_10, z218_11, z218_13, z218_14, z218_17, z218_20, z218_21, z218_24, z218_26, z218_27, z218_28, z218_29, z218_32, z218_34, z218_35, z218_36, z218_37, z218_38, z218_39, z218_42, z218_44, z218_45, z218_46, z218_47, z218_50, z218_52, z218_53, z218_54, z218_55, z218_56, z218_59, z218_62, z218_63, z218_65, z218_66, z218_69, z218_72, z218_73, z218_76, z218_78, z218_79, z218_80, z218_81, z218_84, z218_86, z218_87, z218_88, z218_89, z218_90, z218_93, z218_96, z218_97, z218_100, z218_102, z218_103, z218_106, z218_108, z218_109, z218_110, z218_111, z218_113, z218_114, z218_117, z218_118, z218_121, z218_122, z218_123, z218_126, z218_127, z218_128, z218_129, z218_132, z218_135, z218_136, z218_139, z218_140, z218_141, sm_cti, sm_ctr, sm_ctn, sm_nbi, Option.toList_some, Option.toList_none, List.cons_append, List.nil_append, ne_eq, reduceCtorEq, not_false_eq_true, Nat.reduceLeDiff, kc103, h2, if_true, if_false, not_true_eq_false, not_false_eq_true, and_true, true_and, and_false, false_and, and_self, or_true, true_or, or_false, false_or, reduceIte, iff_self, Int32.add_zero, y_10, Classical.not_not]
    exact h3 I J hI
  · obtain ⟨f, a, b, hb, cF, cT, mF, hz⟩ := fo_pure i2
    have b8 := hb.1
    have b12 := hb.2.1
    have i0 : sm_in 0 5 = true := by decide
    have c0 : (0 : Int32).toNatClampNeg = 0 := by decide
    have c5 : (5 : Int32).toNatClampNeg = 5 := by decide
    have z0 : ¬ (0 : Int32) < 0 := by decide
    have z5 : ¬ (5 : Int32) < 0 := by decide
    have l5 : (0 + 5 ≤ 5) = True := by decide
    have g1 : (26 ≤ 59) = True := by decide
    have g2 : (26 ≤ 53) = True := by decide
    have n0 : (0 : Int32) = nI 0 := rfl
    simp only [z113_0, z113_1, z113_4, z113_7, z113_10, z113_12, z113_13, z113_14, z113_17, z113_18, z113_21, z113_22, z113_25, z113_28, z113_29, z113_32, z113_33, z113_34, z23_0, z23_1, z23_2, z23_5, z23_6, z23_9, z23_10, z23_13, z23_16, z23_17, z23_20, z23_21, z23_22, z23_23, z23_24, z23_27, sm_cti, sm_ctr, sm_ctn, sm_nbi, Option.toList_some, Option.toList_none, List.cons_append, List.nil_append, ne_eq, reduceCtorEq, not_false_eq_true, Nat.reduceLeDiff, kc26, kc48, rc40, rc48, rf26_3, rf26_5, rf26_7, rf48_0, h1, h5, h7, if_true, if_false, not_true_eq_false, not_false_eq_true, and_true, true_and, and_false, false_and, and_self, or_true, true_or, or_false, false_or, reduceIte, iff_self, Int32.add_zero, y_10, Classical.not_not]
    refine c_takeOver (q := 49) (r := 40) (Or.inr (Or.inr (Or.inl rfl))) (Or.inl rfl) (by decide) (p := p) (e := e) (by omega) (by omega) (d + 198) n J _ (fun I1 w1 w2 w3 w4 w5 => ?_)
    have u3 : ∀ (A : sm_I), sm_cI A 53 59 0 0 5 59 0 = A 53 0 := fun A => cI_0 _ _ _ _ _ (by decide)
    simp only [z113_0, z113_1, z113_4, z113_7, z113_10, z113_12, z113_13, z113_14, z113_17, z113_18, z113_21, z113_22, z113_25, z113_28, z113_29, z113_32, z113_33, z113_34, z23_0, z23_1, z23_2, z23_5, z23_6, z23_9, z23_10, z23_13, z23_16, z23_17, z23_20, z23_21, z23_22, z23_23, z23_24, z23_27, sm_cti, sm_ctr, sm_ctn, sm_nbi, Option.toList_some, Option.toList_none, List.cons_append, List.nil_append, ne_eq, reduceCtorEq, not_false_eq_true, Nat.reduceLeDiff, kc26, kc48, kc53, kc59, rf26_7, rf48_1, i0, c0, c5, z0, z5, l5, g1, g2, u3, if_true, if_false, not_true_eq_false, not_false_eq_true, and_true, true_and, and_false, false_and, and_self, or_true, true_or, or_false, false_or, reduceIte, iff_self, Int32.add_zero, y_10, Classical.not_not]
    refine hK _ _ J (fun K2 h3 => ?_)
    have v1 : ∀ x c, ¬ (40 ≤ x ∧ x < 44) → ¬ x = 59 → sm_cI I1 53 59 0 0 5 x c = I x c := fun x c hx hy => by rw [cI_o _ _ hy, w1 _ _ (by omega)]
    have v2 : ∀ x c, (40 ≤ x ∧ x < 44) → sm_cI I1 53 59 0 0 5 x c = I1 x c := fun x c hx => cI_o _ _ (by omega)
    have v5 : ∀ k, k < 5 → sm_cI I1 53 59 0 0 5 59 k = I 53 k := fun k hk => by rw [cI_0 _ _ _ _ _ hk, w1 _ _ (by omega)]
    have ans : I1 53 0 = I 53 0 := w1 _ _ (by omega)
    generalize sm_cI I1 53 59 0 0 5 = I2 at *
    have M33 : I2 103 33 = 1 := by rw [v1 _ _ (by omega) (by omega), h2]
    simp only [z218_0, z218_1, z218_4, z218_10, z218_11, sm_cti, sm_ctr, sm_ctn, sm_nbi, Option.toList_some, Option.toList_none, List.cons_append, List.nil_append, ne_eq, reduceCtorEq, not_false_eq_true, Nat.reduceLeDiff, kc103, M33, if_true, if_false, not_true_eq_false, not_false_eq_true, and_true, true_and, and_false, false_and, and_self, or_true, true_or, or_false, false_or, reduceIte, iff_self, Int32.add_zero, y_10, Classical.not_not]
    rw [n0]
    refine m_bk_lp1 (I := I2) (p := p) (by omega) (by rw [v1 _ _ (by omega) (by omega), h6]) _ n J K2 p 0 (by omega) I2 (fun _ _ _ => rfl) (fun j => by rw [if_neg (by omega)]) (fun I3 w6 w7 => ?_)
    simp only [z218_62, z218_63, sm_cti, sm_ctr, sm_ctn, sm_nbi, Option.toList_some, Option.toList_none, List.cons_append, List.nil_append, ne_eq, reduceCtorEq, not_false_eq_true, Nat.reduceLeDiff, if_true, if_false, not_true_eq_false, not_false_eq_true, and_true, true_and, and_false, false_and, and_self, or_true, true_or, or_false, false_or, reduceIte, iff_self, Int32.add_zero, y_10, Classical.not_not]
    rw [n0]
    refine m_bk_lp2 (I := I3) (p := e) (by omega) (by rw [w6 _ _ (by omega), v1 _ _ (by omega) (by omega), h8]) _ n J K2 e 0 (by omega) I3 (fun _ _ _ => rfl) (fun j => by rw [if_neg (by omega)]) (fun I4 w8 w9 => ?_)
    have i53 : sm_in 53 54 = true := by decide
    have c53 : (53 : Int32).toNatClampNeg = 53 := by decide
    simp only [z218_96, z218_97, z218_100, z218_102, z218_103, z218_106, z218_108, z218_109, z218_110, z218_111, sm_cti, sm_ctr, sm_ctn, sm_nbi, Option.toList_some, Option.toList_none, List.cons_append, List.nil_append, ne_eq, reduceCtorEq, not_false_eq_true, Nat.reduceLeDiff, kc103, kc104, kc122, rf103_0, rf103_36, i53, c53, if_true, if_false, not_true_eq_false, not_false_eq_true, and_true, true_and, and_false, false_and, and_self, or_true, true_or, or_false, false_or, reduceIte, iff_self, Int32.add_zero, y_10, Classical.not_not]
    rw [n0]
    refine m_bk_lp3 (I := sm_uI I4 104 53 (I4 122 53)) _ n J K2 5 0 rfl _ (fun _ _ _ => rfl) (fun j hj => absurd hj (Nat.not_lt_zero _)) (fun I5 w10 w11 => ?_)
    have t : ∀ x c, ¬ ((40 ≤ x ∧ x < 44) ∨ x = 59 ∨ x = 104 ∨ x = 121) → I5 x c = I x c := fun x c hx => by rw [w10 _ _ (by omega), uI_q _ _ (by omega), w8 _ _ (by omega), w6 _ _ (by omega), v1 _ _ (by omega) (by omega)]
    have t4 : ∀ x c, (40 ≤ x ∧ x < 44) → I5 x c = I1 x c := fun x c hx => by rw [w10 _ _ (by omega), uI_q _ _ (by omega), w8 _ _ (by omega), w6 _ _ (by omega), v2 _ _ hx]
    have e123 : ∀ k, sm_uI I4 104 53 (I4 122 53) 123 k = I 123 k := fun k => by rw [uI_q _ _ (by omega), w8 _ _ (by omega), w6 _ _ (by omega), v1 _ _ (by omega) (by omega)]
    have e59 : ∀ k, k < 5 → I5 59 k = I 53 k := fun k hk => by rw [w10 _ _ (by omega), uI_q _ _ (by omega), w8 _ _ (by omega), w6 _ _ (by omega), v5 k hk]
    have hg : ∀ k, 24 ≤ k → k < 54 → k ≠ 52 → I 122 k = nI (I 122 k).toNatClampNeg ∧ (I 122 k).toNatClampNeg ≤ top k ∧ I (clq k + 9) (clb k) = nI (I 122 k).toNatClampNeg := fun k k1 k2 k3 => by
      obtain ⟨e1, v, hv, e2⟩ := h9 k k1 k2 k3
      have := top_le k
      rw [e1, e2, nI_clamp (by omega)]
      exact ⟨rfl, hv, rfl⟩
    have T2 : cTa 49 (fun k => (I 122 k).toNatClampNeg) I := ta_of (fun k k1 k2 k3 => by
      have hq := clq_40 k1 k2 k3
      rw [show 49 + (clq k - 40) = clq k + 9 by omega]
      exact (hg k k1 k2 k3).2.2)
    generalize hgg : (fun k => (I 122 k).toNatClampNeg) = g at *
    have hg' : ∀ k, 24 ≤ k → k < 54 → k ≠ 52 → I 122 k = nI (g k) ∧ g k ≤ top k := fun k k1 k2 k3 => by rw [← hgg]; exact ⟨(hg k k1 k2 k3).1, (hg k k1 k2 k3).2.1⟩
    rw [e123, ← h10 0 (by decide), ← ans]
    refine h3 I5 J (Inv_26 i1 i3 i4 i5 i7 i8 (Nat.le_refl _) (fr26 (fun x c hx => t x c (by omega))) ?_ (iv_im_l i6 (Nat.le_refl _) (Nat.le_refl _) (fun k hk => by rw [e59 k hk, w11 k hk, e123, h10 k hk]) (fun x c hx => t x c (by omega))))
    have hf' : ∀ k, k < 54 → I5 104 k = nI (if ((24 ≤ k ∧ k < 24 + p) ∨ (32 ≤ k ∧ k < 32 + p)) ∨ (40 ≤ k ∧ k < 40 + e) ∨ k = 53 then g k else f k) := fun k hk => by
      rw [w10 _ _ (by omega)]
      have e122 : ∀ j, I2 122 j = I 122 j := fun j => v1 _ _ (by omega) (by omega)
      by_cases q1 : k = 53
      · subst q1
        rw [uI_s, if_pos (by omega), w8 _ _ (by omega), w6 _ _ (by omega), e122, (hg' 53 (by omega) (by omega) (by omega)).1]
      · rw [uI_o _ _ (by omega), w9 k]
        by_cases q2 : 40 ≤ k ∧ k < 40 + e
        · rw [if_pos q2, if_pos (by omega), w6 _ _ (by omega), e122, (hg' k (by omega) (by omega) (by omega)).1]
        · rw [if_neg q2, w7 k]
          by_cases q3 : (24 ≤ k ∧ k < 24 + p) ∨ (32 ≤ k ∧ k < 32 + p)
          · rw [if_pos q3, if_pos (by omega), e122, (hg' k (by omega) (by omega) (by omega)).1]
          · rw [if_neg q3, if_neg (by omega), v1 _ _ (by omega) (by omega), mF.2.2.1 k hk]
    refine fo_back (f := fun k => if ((24 ≤ k ∧ k < 24 + p) ∨ (32 ≤ k ∧ k < 32 + p)) ∨ (40 ≤ k ∧ k < 40 + e) ∨ k = 53 then g k else f k) (a := a) (b := b) ⟨b8, b12, fun k hk => ?_, hb.2.2.2⟩ ⟨?_, ?_, ?_, fun p hp => ⟨?_, ?_, ?_⟩, fun e he => ?_⟩ ⟨fun j hj => ⟨?_, ?_⟩, fun j hj => ?_, ?_⟩ ⟨?_, ?_, hf', fun e he => ?_⟩ (fun j hj1 hj2 => ?_)
    · dsimp only
      by_cases q1 : ((24 ≤ k ∧ k < 24 + p) ∨ (32 ≤ k ∧ k < 32 + p)) ∨ (40 ≤ k ∧ k < 40 + e) ∨ k = 53
      · rw [if_pos q1]
        exact (hg' k (by omega) (by omega) (by omega)).2
      · rw [if_neg q1]
        exact hb.2.2.1 k hk
    · rw [t _ _ (by omega), cF.1]
    · rw [t _ _ (by omega), cF.2.1]
    · dsimp only
      rw [t _ _ (by omega), cF.2.2.1, if_neg (by omega)]
    · dsimp only
      rw [t _ _ (by omega), (cF.2.2.2.1 p hp).1, if_neg (by omega)]
    · dsimp only
      rw [t _ _ (by omega), (cF.2.2.2.1 p hp).2.1, if_neg (by omega)]
    · dsimp only
      rw [t _ _ (by omega), (cF.2.2.2.1 p hp).2.2, if_neg (by omega)]
    · rw [t _ _ (by omega), t _ _ (by omega)]
      exact cF.2.2.2.2 e he
    · dsimp only
      rw [t4 _ _ (by omega), w2 j]
      by_cases q1 : j < p
      · rw [if_pos q1, if_pos (by omega), (T2.1 j hj).1]
      · rw [if_neg q1, if_neg (by omega), (cT.1 j hj).1]
    · dsimp only
      rw [t4 _ _ (by omega), w3 j]
      by_cases q1 : j < p
      · rw [if_pos q1, if_pos (by omega), (T2.1 j hj).2]
      · rw [if_neg q1, if_neg (by omega), (cT.1 j hj).2]
    · dsimp only
      rw [t4 _ _ (by omega), w4 j]
      by_cases q1 : j < e
      · rw [if_pos q1, if_pos (by omega), T2.2.1 j hj]
      · rw [if_neg q1, if_neg (by omega), cT.2.1 j hj]
    · dsimp only
      rw [t4 _ _ (by omega), w5, if_pos (by omega), T2.2.2]
    · rw [t _ _ (by omega), mF.1]
    · rw [t _ _ (by omega), mF.2.1]
    · rw [t _ _ (by omega), t _ _ (by omega)]
      exact mF.2.2.2 e he
    · rw [if_neg (by omega)]
      exact hz j hj1 hj2
