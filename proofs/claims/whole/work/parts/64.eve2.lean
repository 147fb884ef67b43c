/-! both answer alike: evening -/
section
variable {P D : Nat} {f a b : Nat → Nat} {lo : Option ((Nat → Nat) × Nat)}
theorem psg_out (hb : bdf P D f a b) (g : Nat → Nat) (e : Nat) {k : Nat} (h1 : ¬ (24 ≤ k ∧ k < 24 + P)) (h2 : ¬ (32 ≤ k ∧ k < 32 + P)) (h3 : ¬ (40 ≤ k ∧ k < 40 + D)) (h4 : k ≠ 53) : psg P D f a b lo g e k = g k := by
  unfold psg
  rw [if_neg h4]
  by_cases hD : e < D
  · obtain ⟨c1, c2, c3⟩ := hb.2.2.2 e hD
    rw [if_pos hD, if_neg (by omega), if_neg h2, if_neg (by omega), if_neg (by omega)]
  · rw [if_neg hD, if_neg h2]
theorem psg_bdf (hb : bdf P D f a b) (e : Nat) : bdf P D (psg P D f a b lo f e) a b := by
  have hg : bdg f := fun k k1 k2 k3 => hb.2.2.1 k k2
  refine ⟨hb.1, hb.2.1, fun k hk => ?_, hb.2.2.2⟩
  by_cases h : 24 ≤ k ∧ k ≠ 52
  · exact psg_bd lo hb hg e k h.1 hk h.2
  · have h8 := hb.1
    have h12 := hb.2.1
    rw [psg_out hb f e (by omega) (by omega) (by omega) (by omega)]
    exact hb.2.2.1 k hk
theorem m_ev1 (h8 : P ≤ 8) {h g : Nat → Nat} (x1 : Value) (d n : Nat) (J : sm_J) (K : Option Value → sm_H → Prop) {I : sm_I} (hP : I 103 6 = nI P) (hT : mTa P D h I) (h0 : ∀ k, k < 54 → I 104 k = nI (g k)) : ∀ (w j : Nat), j + w = P → ∀ I1 : sm_I, (∀ x c, ¬ x = 104 → I1 x c = I x c) → (∀ k, k < 54 → I1 104 k = nI (if (24 ≤ k ∧ k < 24 + j) ∨ (32 ≤ k ∧ k < 32 + j) then h k else g k)) →
    (∀ I', (∀ x c, ¬ x = 104 → I' x c = I x c) → (∀ k, k < 54 → I' 104 k = nI (if (24 ≤ k ∧ k < 24 + P) ∨ (32 ≤ k ∧ k < 32 + P) then h k else g k)) → sm_Ok d 213 74 [.ref 103, x1, .int 0] [] (sm_SH n, I', J) K) →
    (hx1 : x1.category = 1) → sm_Ok d 213 28 [.ref 103, x1, .int (nI j)] [] (sm_SH n, I1, J) K
  | 0, j, hj, I1, f1, f2, hK, hx1 => by
    have hj : j = P := by omega
    subst hj
    have e6 : I1 103 6 = nI j := by rw [f1 _ _ (by omega), hP]
    rw [z213_28]
    simp only [z213_0, z213_1, z213_3, z213_6, z213_7, z213_8, z213_9, z213_12, z213_15, z213_16, z213_17, z213_18, z213_21, z213_22, z213_23, z213_26, z213_27, z213_29, z213_30, z213_33, z213_36, z213_37, z213_40, z213_42, z213_43, z213_44, z213_45, z213_48, z213_49, z213_50, z213_51, z213_52, z213_55, z213_57, z213_58, z213_59, z213_60, z213_63, z213_64, z213_65, z213_66, z213_69, z213_72, z213_73, z213_75, z213_76, z213_79, z213_82, z213_83, z213_86, z213_88, z213_89, z213_90, z213_91, z213_94, z213_95, z213_96, z213_97, z213_100, z213_103, z213_104, z213_107, z213_109, z213_110, z213_113, z213_114, z213_115, z213_118, z213_119, z213_120, z213_121, z213_122, z213_123, z213_124, z213_125, z213_128, z213_129, z213_130, z213_131, z213_132, z213_134, z213_137, z213_138, z213_141, z213_142, z213_143, z213_144, z213_145, z213_148, z213_149, z213_150, z213_151, z213_152, z213_155, z213_156, z213_157, z213_158, z213_161, sm_cti, sm_ctr, sm_ctn, sm_nbi, Option.toList_some, Option.toList_none, List.cons_append, List.nil_append, ne_eq, reduceCtorEq, not_false_eq_true, Nat.reduceLeDiff, kc103, e6, hx1, Int32.le_refl, if_true, if_false, not_true_eq_false, not_false_eq_true, and_true, true_and, and_false, false_and, and_self, or_true, true_or, or_false, false_or, reduceIte, iff_self, Int32.add_zero, y_10, Classical.not_not]
    exact hK I1 f1 f2
  | w + 1, j, hj, I1, f1, f2, hK, hx1 => by
    have hjP : j < P := by omega
    have e6 : I1 103 6 = nI P := by rw [f1 _ _ (by omega), hP]
    have e1 : I1 113 j = nI (h (24 + j)) := by rw [f1 _ _ (by omega), (hT.1 j hjP).1]
    have e2 : sm_uI I1 104 (24 + j) (nI (h (24 + j))) 114 j = nI (h (32 + j)) := by rw [uI_q _ _ (by omega), f1 _ _ (by omega), (hT.1 j hjP).2]
    have a2 : (24 : Int32) + nI j = nI (24 + j) := nI_add 24 j
    have a3 : (32 : Int32) + nI j = nI (32 + j) := nI_add 32 j
    rw [z213_28]
    simp only [z213_0, z213_1, z213_3, z213_6, z213_7, z213_8, z213_9, z213_12, z213_15, z213_16, z213_17, z213_18, z213_21, z213_22, z213_23, z213_26, z213_27, z213_29, z213_30, z213_33, z213_36, z213_37, z213_40, z213_42, z213_43, z213_44, z213_45, z213_48, z213_49, z213_50, z213_51, z213_52, z213_55, z213_57, z213_58, z213_59, z213_60, z213_63, z213_64, z213_65, z213_66, z213_69, z213_72, z213_73, z213_75, z213_76, z213_79, z213_82, z213_83, z213_86, z213_88, z213_89, z213_90, z213_91, z213_94, z213_95, z213_96, z213_97, z213_100, z213_103, z213_104, z213_107, z213_109, z213_110, z213_113, z213_114, z213_115, z213_118, z213_119, z213_120, z213_121, z213_122, z213_123, z213_124, z213_125, z213_128, z213_129, z213_130, z213_131, z213_132, z213_134, z213_137, z213_138, z213_141, z213_142, z213_143, z213_144, z213_145, z213_148, z213_149, z213_150, z213_151, z213_152, z213_155, z213_156, z213_157, z213_158, z213_161, sm_cti, sm_ctr, sm_ctn, sm_nbi, Option.toList_some, Option.toList_none, List.cons_append, List.nil_append, ne_eq, reduceCtorEq, not_false_eq_true, Nat.reduceLeDiff, kc103, kc104, kc113, kc114, rf103_0, rf103_20, rf103_21, e6, if_neg (nI_ge hjP (show P < 2 ^ 31 by omega)), a2, a3, e1, e2, hx1, y_inN (show 24 + j < 54 by omega) (by decide), nI_clamp (show 24 + j < 2 ^ 31 by omega), y_inN (show 32 + j < 54 by omega) (by decide), nI_clamp (show 32 + j < 2 ^ 31 by omega), y_inN (show j < 8 by omega) (by decide), nI_clamp (show j < 2 ^ 31 by omega), nI_1, if_true, if_false, not_true_eq_false, not_false_eq_true, and_true, true_and, and_false, false_and, and_self, or_true, true_or, or_false, false_or, reduceIte, iff_self, Int32.add_zero, y_10, Classical.not_not]
    refine m_ev1 h8 x1 d n J K hP hT h0 w (j + 1) (by omega) _ (fun x c hx => by rw [uI_q _ _ hx, uI_q _ _ hx, f1 x c hx]) (fun k hk => ?_) hK hx1
    by_cases h1 : k = 32 + j
    · rw [h1, uI_s, if_pos (by omega)]
    · rw [uI_o _ _ (by omega)]
      by_cases h2 : k = 24 + j
      · rw [h2, uI_s, if_pos (by omega)]
      · rw [uI_o _ _ (by omega), f2 k hk]
        congr 1
        by_cases h3 : (24 ≤ k ∧ k < 24 + j) ∨ (32 ≤ k ∧ k < 32 + j)
        · rw [if_pos h3, if_pos (by omega)]
        · rw [if_neg h3, if_neg (by omega)]
theorem m_ev2 (h12 : D ≤ 12) {h g : Nat → Nat} (x1 : Value) (d n : Nat) (J : sm_J) (K : Option Value → sm_H → Prop) {I : sm_I} (hD : I 103 7 = nI D) (hT : mTa P D h I) (h0 : ∀ k, k < 54 → I 104 k = nI (g k)) : ∀ (w j : Nat), j + w = D → ∀ I1 : sm_I, (∀ x c, ¬ x = 104 → I1 x c = I x c) → (∀ k, k < 54 → I1 104 k = nI (if 40 ≤ k ∧ k < 40 + j then h k else g k)) →
    (∀ I', (∀ x c, ¬ x = 104 → I' x c = I x c) → (∀ k, k < 54 → I' 104 k = nI (if 40 ≤ k ∧ k < 40 + D then h k else g k)) → sm_Ok d 213 103 [.ref 103, x1, .int (nI D)] [] (sm_SH n, I', J) K) →
    (hx1 : x1.category = 1) → sm_Ok d 213 74 [.ref 103, x1, .int (nI j)] [] (sm_SH n, I1, J) K
  | 0, j, hj, I1, f1, f2, hK, hx1 => by
    have hj : j = D := by omega
    subst hj
    have e6 : I1 103 7 = nI j := by rw [f1 _ _ (by omega), hD]
    rw [z213_74]
    simp only [z213_75, z213_76, z213_79, sm_cti, sm_ctr, sm_ctn, sm_nbi, Option.toList_some, Option.toList_none, List.cons_append, List.nil_append, ne_eq, reduceCtorEq, not_false_eq_true, Nat.reduceLeDiff, kc103, e6, Int32.le_refl, if_true, if_false, not_true_eq_false, not_false_eq_true, and_true, true_and, and_false, false_and, and_self, or_true, true_or, or_false, false_or, reduceIte, iff_self, Int32.add_zero, y_10, Classical.not_not]
    exact hK I1 f1 f2
  | w + 1, j, hj, I1, f1, f2, hK, hx1 => by
    have hjP : j < D := by omega
    have e6 : I1 103 7 = nI D := by rw [f1 _ _ (by omega), hD]
    have e1 : I1 115 j = nI (h (40 + j)) := by rw [f1 _ _ (by omega), hT.2.1 j hjP]
    have a2 : (40 : Int32) + nI j = nI (40 + j) := nI_add 40 j
    rw [z213_74]
    simp only [z213_75, z213_76, z213_79, z213_82, z213_83, z213_86, z213_88, z213_89, z213_90, z213_91, z213_94, z213_95, z213_96, z213_97, z213_100, sm_cti, sm_ctr, sm_ctn, sm_nbi, Option.toList_some, Option.toList_none, List.cons_append, List.nil_append, ne_eq, reduceCtorEq, not_false_eq_true, Nat.reduceLeDiff, kc103, kc104, kc115, rf103_0, rf103_22, e6, if_neg (nI_ge hjP (show D < 2 ^ 31 by omega)), a2, e1, hx1, y_inN (show 40 + j < 54 by omega) (by decide), nI_clamp (show 40 + j < 2 ^ 31 by omega), y_inN (show j < 12 by omega) (by decide), nI_clamp (show j < 2 ^ 31 by omega), nI_1, if_true, if_false, not_true_eq_false, not_false_eq_true, and_true, true_and, and_false, false_and, and_self, or_true, true_or, or_false, false_or, reduceIte, iff_self, Int32.add_zero, y_10, Classical.not_not]
    refine m_ev2 h12 x1 d n J K hD hT h0 w (j + 1) (by omega) _ (fun x c hx => by rw [uI_q _ _ hx, f1 x c hx]) (fun k hk => ?_) hK hx1
    by_cases h1 : k = 40 + j
    · rw [h1, uI_s, if_pos (by omega)]
    · rw [uI_o _ _ (by omega), f2 k hk]
      congr 1
      by_cases h3 : 40 ≤ k ∧ k < 40 + j
      · rw [if_pos h3, if_pos (by omega)]
      · rw [if_neg h3, if_neg (by omega)]
end
theorem songOk {D : Nat} (hD : D ≤ 12) {x : Int32} (hx : x = 12 ∨ (0 ≤ x ∧ x < nI D)) : ∃ e : Nat, (e < D ∨ e = 12) ∧ x = nI e := by
  rcases hx with rfl | hx
  · exact ⟨12, Or.inr rfl, rfl⟩
  · obtain ⟨e, he, rfl⟩ := y_idx (show D < 2 ^ 31 by omega) hx
    exact ⟨e, Or.inl he, rfl⟩
/-- nothing but people, debts and what is led has changed: all holds -/
theorem Inv_26 {xs : Nat → Int32} {P P' D' B : Nat} {I I' : sm_I} {J : sm_J} (h1 : iv_ro xs I) (h3 : iv_ch P I) (h4 : iv_ta I) (h5 : iv_la I) (h7 : iv_tu B I) (h8 : iv_sh B I J) (hP : P ≤ P') (hf : ∀ q b, rg q b ≠ 0 → rg q b ≠ 2 → rg q b ≠ 6 → I' q b = I q b) (k2 : iv_fo P' D' I') (k6 : iv_im P' D' I') : Inv xs I' J := by
  have e : ∀ g, g ≠ 0 → g ≠ 2 → g ≠ 6 → ∀ q b, rg q b = g → I' q b = I q b := fun g g0 g2 g6 q b hr => hf q b (by rw [hr]; exact g0) (by rw [hr]; exact g2) (by rw [hr]; exact g6)
  exact ⟨P', D', B, iv_ro_g h1 (e 1 (by decide) (by decide) (by decide)), k2, iv_ch_g h3 hP (e 3 (by decide) (by decide) (by decide)), iv_ta_f h4 (e 4 (by decide) (by decide) (by decide)), iv_la_f h5 (e 5 (by decide) (by decide) (by decide)), k6, iv_tu_g h7 (e 7 (by decide) (by decide) (by decide)), iv_sh_g h8 (Nat.le_refl _) (e 8 (by decide) (by decide) (by decide)) (fun _ _ _ => rfl)⟩
theorem pw_evening {n : Nat} {xs : Nat → Int32} {I : sm_I} {J : sm_J} (hI : Inv xs I J) (x : Int32) : pw n I J 108 [.ref 26, .int x, .null] 213 [.ref 103, .int x, .null] (fun I2 J2 => Inv xs I2 J2) := by
  obtain ⟨P, D, B, i1, i2, i3, i4, i5, i6, i7, i8⟩ := id hI
  obtain ⟨f, a, b, hb, cF, cT, mF, hz⟩ := fo_pure i2
  obtain ⟨lo, cl, ml⟩ := la_lo i5
  intro d K hK
  have hD := hb.2.1
  have h8 := hb.1
  have hg : bdg f := fun k k1 k2 k3 => hb.2.2.1 k k2
  by_cases hx : x = 12 ∨ (0 ≤ x ∧ x < nI D)
  · obtain ⟨e, he, rfl⟩ := songOk hD hx
    have he31 : e < 2 ^ 31 := by omega
    have c012 : (0 : Int32).toNatClampNeg = 0 ∧ (1 : Int32).toNatClampNeg = 1 ∧ (2 : Int32).toNatClampNeg = 2 := by decide
    have s012 : sm_in 0 5 = true ∧ sm_in 1 5 = true ∧ sm_in 2 5 = true := by decide
    have go : sm_Ok (d + 200) 108 19 [.ref 26, .int (nI e), .null] [] (sm_SH n, I, J) K := by
      simp only [z108_0, z108_1, z108_3, z108_6, z108_7, z108_10, z108_11, z108_14, z108_17, z108_18, z108_19, z108_20, z108_23, z108_24, z108_27, z108_28, z108_31, z108_32, z108_33, z108_36, z108_37, z108_38, z108_39, z108_40, z108_41, z108_42, z108_43, z108_46, z108_47, z108_48, z108_49, z108_50, z108_52, z108_55, z108_56, z108_59, z108_60, z108_61, z108_62, z108_63, z108_66, z108_67, z108_68, z108_69, z108_70, z108_71, z108_72, z108_73, sm_cti, sm_ctr, sm_ctn, sm_nbi, Option.toList_some, Option.toList_none, List.cons_append, List.nil_append, ne_eq, reduceCtorEq, not_false_eq_true, Nat.reduceLeDiff, kc26, rc34, rf26_2, rf26_3, if_true, if_false, not_true_eq_false, not_false_eq_true, and_true, true_and, and_false, false_and, and_self, or_true, true_or, or_false, false_or, reduceIte, iff_self, Int32.add_zero, y_10, Classical.not_not]
      refine c_pass hb cF cl (q := 40) (Or.inl rfl) hg cT he31 (d + 195) n J _ (fun I1 w1 t1 => ?_)
      have L0 : ∀ k, I1 59 k = I 59 k := fun k => w1 59 k (by omega)
      have v1 : sm_uI I1 59 0 (I 59 0 + 1) 59 1 = I 59 1 := by rw [uI_o _ _ (by omega), L0]
      have v2 : ∀ u, sm_uI (sm_uI I1 59 0 (I 59 0 + 1)) 59 1 u 59 2 = I 59 2 := fun u => by rw [uI_o _ _ (by omega), uI_o _ _ (by omega), L0]
      -- the class's end
      have fin : ∀ u : Int32, u = (if nI e = 12 then 0 else 1) → K (some (.int (nI (pay P D f a b lo f e)))) (sm_SH n, sm_uI (sm_uI (sm_uI I1 59 0 (I 59 0 + 1)) 59 1 (I 59 1 + u)) 59 2 (I 59 2 + nI (pay P D f a b lo f e)), J) := by
        intro u hu
        refine hK _ _ J (fun K2 h2 => ?_)
        have hb' := psg_bdf (lo := lo) hb e
        generalize hI5 : sm_uI (sm_uI (sm_uI I1 59 0 (I 59 0 + 1)) 59 1 (I 59 1 + u)) 59 2 (I 59 2 + nI (pay P D f a b lo f e)) = I5
        have f5 : ∀ x c, ¬ (x = 29 ∨ x = 30 ∨ (40 ≤ x ∧ x < 44) ∨ x = 59) → I5 x c = I x c := fun x c hx => by rw [← hI5, uI_q _ _ (by omega), uI_q _ _ (by omega), uI_q _ _ (by omega), w1 x c (by omega)]
        have t5 : cTa 40 (psg P D f a b lo f e) I5 := cTa_f t1 (fun x c h1 h2 => by rw [← hI5, uI_q _ _ (by omega), uI_q _ _ (by omega), uI_q _ _ (by omega)])
        have l5 : ∀ k, k < 5 → I5 59 k = if k = 0 then I 59 0 + 1 else if k = 1 then I 59 1 + u else if k = 2 then I 59 2 + nI (pay P D f a b lo f e) else I 59 k := fun k hk => by
          rw [← hI5]
          simp only [uI_at, L0, true_and]
          (repeat' split) <;> first | rfl | omega
        have mF5 : mFo P D f a b I5 := mFo_f mF (fun x c hx => f5 x c (by omega))
        have goM : sm_Ok (d + 200) 213 17 [.ref 103, .int (nI e), .null] [] (sm_SH n, I5, J) K2 := by
          simp only [z213_0, z213_1, z213_3, z213_6, z213_7, z213_8, z213_9, z213_12, z213_15, z213_16, z213_17, z213_18, z213_21, z213_22, z213_23, z213_26, z213_27, z213_29, z213_30, z213_33, z213_36, z213_37, z213_40, z213_42, z213_43, z213_44, z213_45, z213_48, z213_49, z213_50, z213_51, z213_52, z213_55, z213_57, z213_58, z213_59, z213_60, z213_63, z213_64, z213_65, z213_66, z213_69, z213_72, z213_73, z213_75, z213_76, z213_79, z213_82, z213_83, z213_86, z213_88, z213_89, z213_90, z213_91, z213_94, z213_95, z213_96, z213_97, z213_100, z213_103, z213_104, z213_107, z213_109, z213_110, z213_113, z213_114, z213_115, z213_118, z213_119, z213_120, z213_121, z213_122, z213_123, z213_124, z213_125, z213_128, z213_129, z213_130, z213_131, z213_132, z213_134, z213_137, z213_138, z213_141, z213_142, z213_143, z213_144, z213_145, z213_148, z213_149, z213_150, z213_151, z213_152, z213_155, z213_156, z213_157, z213_158, z213_161, sm_cti, sm_ctr, sm_ctn, sm_nbi, Option.toList_some, Option.toList_none, List.cons_append, List.nil_append, ne_eq, reduceCtorEq, not_false_eq_true, Nat.reduceLeDiff, rc103, if_true, if_false, not_true_eq_false, not_false_eq_true, and_true, true_and, and_false, false_and, and_self, or_true, true_or, or_false, false_or, reduceIte, iff_self, Int32.add_zero, y_10, Classical.not_not]
          refine m_begins hb mF5 _ n J _ (fun I6 w6 t6 => ?_)
          simp only [z213_0, z213_1, z213_3, z213_6, z213_7, z213_8, z213_9, z213_12, z213_15, z213_16, z213_17, z213_18, z213_21, z213_22, z213_23, z213_26, z213_27, z213_29, z213_30, z213_33, z213_36, z213_37, z213_40, z213_42, z213_43, z213_44, z213_45, z213_48, z213_49, z213_50, z213_51, z213_52, z213_55, z213_57, z213_58, z213_59, z213_60, z213_63, z213_64, z213_65, z213_66, z213_69, z213_72, z213_73, z213_75, z213_76, z213_79, z213_82, z213_83, z213_86, z213_88, z213_89, z213_90, z213_91, z213_94, z213_95, z213_96, z213_97, z213_100, z213_103, z213_104, z213_107, z213_109, z213_110, z213_113, z213_114, z213_115, z213_118, z213_119, z213_120, z213_121, z213_122, z213_123, z213_124, z213_125, z213_128, z213_129, z213_130, z213_131, z213_132, z213_134, z213_137, z213_138, z213_141, z213_142, z213_143, z213_144, z213_145, z213_148, z213_149, z213_150, z213_151, z213_152, z213_155, z213_156, z213_157, z213_158, z213_161, sm_cti, sm_ctr, sm_ctn, sm_nbi, Option.toList_some, Option.toList_none, List.cons_append, List.nil_append, ne_eq, reduceCtorEq, not_false_eq_true, Nat.reduceLeDiff, rc103, if_true, if_false, not_true_eq_false, not_false_eq_true, and_true, true_and, and_false, false_and, and_self, or_true, true_or, or_false, false_or, reduceIte, iff_self, Int32.add_zero, y_10, Classical.not_not]
          have mF6 := mFo_f mF5 (I' := I6) (fun x c hx => w6 x c (by omega))
          refine m_pass hb mF6 (mLw_f ml (fun x c hx => by rw [w6 x c (by omega), f5 x c (by omega)])) hg t6 he (d + 151) n J _ (fun I7 w7 t7 p7 => ?_)
          simp only [z213_0, z213_1, z213_3, z213_6, z213_7, z213_8, z213_9, z213_12, z213_15, z213_16, z213_17, z213_18, z213_21, z213_22, z213_23, z213_26, z213_27, z213_29, z213_30, z213_33, z213_36, z213_37, z213_40, z213_42, z213_43, z213_44, z213_45, z213_48, z213_49, z213_50, z213_51, z213_52, z213_55, z213_57, z213_58, z213_59, z213_60, z213_63, z213_64, z213_65, z213_66, z213_69, z213_72, z213_73, z213_75, z213_76, z213_79, z213_82, z213_83, z213_86, z213_88, z213_89, z213_90, z213_91, z213_94, z213_95, z213_96, z213_97, z213_100, z213_103, z213_104, z213_107, z213_109, z213_110, z213_113, z213_114, z213_115, z213_118, z213_119, z213_120, z213_121, z213_122, z213_123, z213_124, z213_125, z213_128, z213_129, z213_130, z213_131, z213_132, z213_134, z213_137, z213_138, z213_141, z213_142, z213_143, z213_144, z213_145, z213_148, z213_149, z213_150, z213_151, z213_152, z213_155, z213_156, z213_157, z213_158, z213_161, sm_cti, sm_ctr, sm_ctn, sm_nbi, Option.toList_some, Option.toList_none, List.cons_append, List.nil_append, ne_eq, reduceCtorEq, not_false_eq_true, Nat.reduceLeDiff, if_true, if_false, not_true_eq_false, not_false_eq_true, and_true, true_and, and_false, false_and, and_self, or_true, true_or, or_false, false_or, reduceIte, iff_self, Int32.add_zero, y_10, Classical.not_not]
          rw [show (0 : Int32) = nI 0 from nI_0.symm]
          have M7 : ∀ k, k < 54 → I7 104 k = nI (f k) := fun k hk => by rw [w7 _ _ (by omega), mF6.2.2.1 k hk]
          refine m_ev1 h8 _ _ n J K2 (by rw [w7 _ _ (by omega), mF6.1]) t7 M7 P 0 (by omega) I7 (fun x c _ => rfl) (fun k hk => by rw [if_neg (by omega), M7 k hk]) (fun I8 w8 m8 => ?_) rfl
          rw [show (0 : Int32) = nI 0 from nI_0.symm]
          refine m_ev2 hD _ _ n J K2 (by rw [w8 _ _ (by omega), w7 _ _ (by omega), mF6.2.1]) (mTa_f t7 (fun x c hx => w8 x c (by omega))) m8 D 0 (by omega) I8 (fun x c _ => rfl) (fun k hk => by rw [if_neg (by omega), m8 k hk]) (fun I9 w9 m9 => ?_) rfl
          have e53 : I9 103 23 = nI (psg P D f a b lo f e 53) := by rw [w9 _ _ (by omega), w8 _ _ (by omega), t7.2.2]
          have ep : I9 103 24 = nI (pay P D f a b lo f e) := by rw [w9 _ _ (by omega), w8 _ _ (by omega), p7]
          have i53 : sm_in 53 54 = true := by decide
          have c53 : (53 : Int32).toNatClampNeg = 53 := by decide
          have L9 : ∀ k, I9 121 k = I 121 k := fun k => by rw [w9 _ _ (by omega), w8 _ _ (by omega), w7 _ _ (by omega), w6 _ _ (by omega), f5 _ _ (by omega)]
          have q0 : sm_uI I9 104 53 (nI (psg P D f a b lo f e 53)) 121 0 = I 121 0 := by rw [uI_q _ _ (by omega), L9]
          have q1 : sm_uI (sm_uI I9 104 53 (nI (psg P D f a b lo f e 53))) 121 0 (I 121 0 + 1) 121 1 = I 121 1 := by rw [uI_o _ _ (by omega), uI_q _ _ (by omega), L9]
          have q2 : ∀ u, sm_uI (sm_uI (sm_uI I9 104 53 (nI (psg P D f a b lo f e 53))) 121 0 (I 121 0 + 1)) 121 1 u 121 2 = I 121 2 := fun u => by rw [uI_o _ _ (by omega), uI_o _ _ (by omega), uI_q _ _ (by omega), L9]
          have q3 : ∀ u, sm_uI (sm_uI (sm_uI I9 104 53 (nI (psg P D f a b lo f e 53))) 121 0 (I 121 0 + 1)) 121 1 u 103 24 = nI (pay P D f a b lo f e) := fun u => by rw [uI_q _ _ (by omega), uI_q _ _ (by omega), uI_q _ _ (by omega), ep]
          have q4 : ∀ u v, sm_uI (sm_uI (sm_uI (sm_uI I9 104 53 (nI (psg P D f a b lo f e 53))) 121 0 (I 121 0 + 1)) 121 1 u) 121 2 v 103 24 = nI (pay P D f a b lo f e) := fun u v => by rw [uI_q _ _ (by omega), q3]
          have finM : K2 (some (.int (nI (pay P D f a b lo f e)))) (sm_SH n, sm_uI (sm_uI (sm_uI (sm_uI I9 104 53 (nI (psg P D f a b lo f e 53))) 121 0 (I 121 0 + 1)) 121 1 (I 121 1 + u)) 121 2 (I 121 2 + nI (pay P D f a b lo f e)), J) := by
            refine h2 _ J ?_
            generalize hIA : sm_uI (sm_uI (sm_uI (sm_uI I9 104 53 (nI (psg P D f a b lo f e 53))) 121 0 (I 121 0 + 1)) 121 1 (I 121 1 + u)) 121 2 (I 121 2 + nI (pay P D f a b lo f e)) = IA
            have fA : ∀ x c, ¬ ((112 ≤ x ∧ x < 116) ∨ (x = 103 ∧ 14 ≤ c ∧ c ≤ 24) ∨ x = 104 ∨ x = 121) → IA x c = I5 x c := fun x c hx => by rw [← hIA, uI_q _ _ (by omega), uI_q _ _ (by omega), uI_q _ _ (by omega), uI_q _ _ (by omega), w9 x c (by omega), w8 x c (by omega), w7 x c (by omega), w6 x c (by omega)]
            have lA : ∀ k, k < 5 → IA 121 k = if k = 0 then I 121 0 + 1 else if k = 1 then I 121 1 + u else if k = 2 then I 121 2 + nI (pay P D f a b lo f e) else I 121 k := fun k hk => by
              have z9 : ∀ k, sm_uI I9 104 53 (nI (psg P D f a b lo f e 53)) 121 k = I 121 k := fun k => by rw [uI_q _ _ (by omega), L9]
              rw [← hIA]
              simp only [uI_at, z9, true_and]
              (repeat' split) <;> first | rfl | omega | (simp_all; done)
            have mA : ∀ k, k < 54 → IA 104 k = nI (psg P D f a b lo f e k) := fun k hk => by
              rw [← hIA, uI_q _ _ (by omega), uI_q _ _ (by omega), uI_q _ _ (by omega)]
              by_cases hk5 : k = 53
              · rw [hk5, uI_s]
              · rw [uI_o _ _ (by omega), m9 k hk]
                by_cases h4 : 40 ≤ k ∧ k < 40 + D
                · rw [if_pos h4]
                · rw [if_neg h4]
                  by_cases h5 : (24 ≤ k ∧ k < 24 + P) ∨ (32 ≤ k ∧ k < 32 + P)
                  · rw [if_pos h5]
                  · rw [if_neg h5, psg_out hb f e (by omega) (by omega) (by omega) hk5]
            refine Inv_26 (P' := P) (D' := D) i1 i3 i4 i5 i7 i8 (Nat.le_refl _) (fr26 (fun x c hx => by rw [fA x c (by omega), f5 x c (by omega)])) ?_ ?_
            · refine fo_back hb' ?_ (cTa_f t5 (fun x c h1 h2 => fA x c (by omega))) ?_ ?_
              · have cFA : cFo P D f a b IA := cFo_f cF (fun x c h1 h2 => by rw [fA x c (by omega), f5 x c (by omega)])
                obtain ⟨F1, F2, F3, F4, F5⟩ := cFA
                refine ⟨F1, F2, ?_, fun p hp => ?_, F5⟩
                · rw [F3, psg_out hb f e (by omega) (by omega) (by omega) (by omega)]
                · rw [psg_out hb f e (by omega) (by omega) (by omega) (by omega), psg_out hb f e (by omega) (by omega) (by omega) (by omega), psg_out hb f e (by omega) (by omega) (by omega) (by omega)]
                  exact F4 p hp
              · exact ⟨by rw [fA _ _ (by omega), mF5.1], by rw [fA _ _ (by omega), mF5.2.1], mA, fun o ho => ⟨by rw [fA _ _ (by omega), (mF5.2.2.2 o ho).1], by rw [fA _ _ (by omega), (mF5.2.2.2 o ho).2]⟩⟩
              · intro p p1 p2
                rw [psg_out hb f e (by omega) (by omega) (by omega) (by omega)]
                exact hz p p1 p2
            · refine iv_im_l i6 (Nat.le_refl _) (Nat.le_refl _) (fun k hk => ?_) (fun x c hx => by rw [fA x c (by omega), f5 x c (by omega)])
              rw [lA k hk, fA _ _ (by omega), l5 k hk, i6.1 0 (by decide), i6.1 1 (by decide), i6.1 2 (by decide), i6.1 k hk]
          have hdd : (Value.int (nI e)).category = 1 := rfl
          by_cases h12 : nI e = 12
          · rw [if_pos h12] at hu
            subst hu
            simp only [z213_0, z213_1, z213_3, z213_6, z213_7, z213_8, z213_9, z213_12, z213_15, z213_16, z213_17, z213_18, z213_21, z213_22, z213_23, z213_26, z213_27, z213_29, z213_30, z213_33, z213_36, z213_37, z213_40, z213_42, z213_43, z213_44, z213_45, z213_48, z213_49, z213_50, z213_51, z213_52, z213_55, z213_57, z213_58, z213_59, z213_60, z213_63, z213_64, z213_65, z213_66, z213_69, z213_72, z213_73, z213_75, z213_76, z213_79, z213_82, z213_83, z213_86, z213_88, z213_89, z213_90, z213_91, z213_94, z213_95, z213_96, z213_97, z213_100, z213_103, z213_104, z213_107, z213_109, z213_110, z213_113, z213_114, z213_115, z213_118, z213_119, z213_120, z213_121, z213_122, z213_123, z213_124, z213_125, z213_128, z213_129, z213_130, z213_131, z213_132, z213_134, z213_137, z213_138, z213_141, z213_142, z213_143, z213_144, z213_145, z213_148, z213_149, z213_150, z213_151, z213_152, z213_155, z213_156, z213_157, z213_158, z213_161, sm_cti, sm_ctr, sm_ctn, sm_nbi, Option.toList_some, Option.toList_none, List.cons_append, List.nil_append, ne_eq, reduceCtorEq, not_false_eq_true, Nat.reduceLeDiff, kc103, kc104, kc121, rf103_0, rf103_32, e53, i53, c53, c012, s012, q0, q1, q2, q3, q4, h12, if_true, if_false, not_true_eq_false, not_false_eq_true, and_true, true_and, and_false, false_and, and_self, or_true, true_or, or_false, false_or, reduceIte, iff_self, Int32.add_zero, y_10, Classical.not_not] at finM ⊢
            exact finM
          · rw [if_neg h12] at hu
            subst hu
            simp only [z213_0, z213_1, z213_3, z213_6, z213_7, z213_8, z213_9, z213_12, z213_15, z213_16, z213_17, z213_18, z213_21, z213_22, z213_23, z213_26, z213_27, z213_29, z213_30, z213_33, z213_36, z213_37, z213_40, z213_42, z213_43, z213_44, z213_45, z213_48, z213_49, z213_50, z213_51, z213_52, z213_55, z213_57, z213_58, z213_59, z213_60, z213_63, z213_64, z213_65, z213_66, z213_69, z213_72, z213_73, z213_75, z213_76, z213_79, z213_82, z213_83, z213_86, z213_88, z213_89, z213_90, z213_91, z213_94, z213_95, z213_96, z213_97, z213_100, z213_103, z213_104, z213_107, z213_109, z213_110, z213_113, z213_114, z213_115, z213_118, z213_119, z213_120, z213_121, z213_122, z213_123, z213_124, z213_125, z213_128, z213_129, z213_130, z213_131, z213_132, z213_134, z213_137, z213_138, z213_141, z213_142, z213_143, z213_144, z213_145, z213_148, z213_149, z213_150, z213_151, z213_152, z213_155, z213_156, z213_157, z213_158, z213_161, sm_cti, sm_ctr, sm_ctn, sm_nbi, Option.toList_some, Option.toList_none, List.cons_append, List.nil_append, ne_eq, reduceCtorEq, not_false_eq_true, Nat.reduceLeDiff, kc103, kc104, kc121, rf103_0, rf103_32, e53, i53, c53, c012, s012, q0, q1, q2, q3, q4, h12, if_true, if_false, not_true_eq_false, not_false_eq_true, and_true, true_and, and_false, false_and, and_self, or_true, true_or, or_false, false_or, reduceIte, iff_self, Int32.add_zero, y_10, Classical.not_not] at finM ⊢
            exact finM
        have mD5 := mF5.2.1
        by_cases h12 : nI e = 12
        · simp only [h12, z213_0, z213_1, z213_3, z213_6, z213_7, z213_8, z213_9, z213_12, z213_15, z213_16, z213_17, z213_18, z213_21, z213_22, z213_23, z213_26, z213_27, z213_29, z213_30, z213_33, z213_36, z213_37, z213_40, z213_42, z213_43, z213_44, z213_45, z213_48, z213_49, z213_50, z213_51, z213_52, z213_55, z213_57, z213_58, z213_59, z213_60, z213_63, z213_64, z213_65, z213_66, z213_69, z213_72, z213_73, z213_75, z213_76, z213_79, z213_82, z213_83, z213_86, z213_88, z213_89, z213_90, z213_91, z213_94, z213_95, z213_96, z213_97, z213_100, z213_103, z213_104, z213_107, z213_109, z213_110, z213_113, z213_114, z213_115, z213_118, z213_119, z213_120, z213_121, z213_122, z213_123, z213_124, z213_125, z213_128, z213_129, z213_130, z213_131, z213_132, z213_134, z213_137, z213_138, z213_141, z213_142, z213_143, z213_144, z213_145, z213_148, z213_149, z213_150, z213_151, z213_152, z213_155, z213_156, z213_157, z213_158, z213_161, sm_cti, sm_ctr, sm_ctn, sm_nbi, Option.toList_some, Option.toList_none, List.cons_append, List.nil_append, ne_eq, reduceCtorEq, not_false_eq_true, Nat.reduceLeDiff, if_true, if_false, not_true_eq_false, not_false_eq_true, and_true, true_and, and_false, false_and, and_self, or_true, true_or, or_false, false_or, reduceIte, iff_self, Int32.add_zero, y_10, Classical.not_not] at goM ⊢
          exact goM
        · have hx2 : 0 ≤ nI e ∧ nI e < nI D := hx.resolve_left h12
          simp only [h12, hx2, z213_0, z213_1, z213_3, z213_6, z213_7, z213_8, z213_9, z213_12, z213_15, z213_16, z213_17, z213_18, z213_21, z213_22, z213_23, z213_26, z213_27, z213_29, z213_30, z213_33, z213_36, z213_37, z213_40, z213_42, z213_43, z213_44, z213_45, z213_48, z213_49, z213_50, z213_51, z213_52, z213_55, z213_57, z213_58, z213_59, z213_60, z213_63, z213_64, z213_65, z213_66, z213_69, z213_72, z213_73, z213_75, z213_76, z213_79, z213_82, z213_83, z213_86, z213_88, z213_89, z213_90, z213_91, z213_94, z213_95, z213_96, z213_97, z213_100, z213_103, z213_104, z213_107, z213_109, z213_110, z213_113, z213_114, z213_115, z213_118, z213_119, z213_120, z213_121, z213_122, z213_123, z213_124, z213_125, z213_128, z213_129, z213_130, z213_131, z213_132, z213_134, z213_137, z213_138, z213_141, z213_142, z213_143, z213_144, z213_145, z213_148, z213_149, z213_150, z213_151, z213_152, z213_155, z213_156, z213_157, z213_158, z213_161, sm_cti, sm_ctr, sm_ctn, sm_nbi, Option.toList_some, Option.toList_none, List.cons_append, List.nil_append, ne_eq, reduceCtorEq, not_false_eq_true, Nat.reduceLeDiff, rc103, m_isDebtX (show D < 2 ^ 31 by omega) mD5, y_bit, if_true, if_false, not_true_eq_false, not_false_eq_true, and_true, true_and, and_false, false_and, and_self, or_true, true_or, or_false, false_or, reduceIte, iff_self, Int32.add_zero, y_10, Classical.not_not] at goM ⊢
          exact goM
      by_cases h12 : nI e = 12
      · have F := fin 0 (by rw [if_pos h12])
        simp only [z108_0, z108_1, z108_3, z108_6, z108_7, z108_10, z108_11, z108_14, z108_17, z108_18, z108_19, z108_20, z108_23, z108_24, z108_27, z108_28, z108_31, z108_32, z108_33, z108_36, z108_37, z108_38, z108_39, z108_40, z108_41, z108_42, z108_43, z108_46, z108_47, z108_48, z108_49, z108_50, z108_52, z108_55, z108_56, z108_59, z108_60, z108_61, z108_62, z108_63, z108_66, z108_67, z108_68, z108_69, z108_70, z108_71, z108_72, z108_73, sm_cti, sm_ctr, sm_ctn, sm_nbi, Option.toList_some, Option.toList_none, List.cons_append, List.nil_append, ne_eq, reduceCtorEq, not_false_eq_true, Nat.reduceLeDiff, kc26, kc59, rf26_7, c012, s012, L0, v1, v2, h12, if_true, if_false, not_true_eq_false, not_false_eq_true, and_true, true_and, and_false, false_and, and_self, or_true, true_or, or_false, false_or, reduceIte, iff_self, Int32.add_zero, y_10, Classical.not_not] at F ⊢
        exact F
      · have F := fin 1 (by rw [if_neg h12])
        simp only [z108_0, z108_1, z108_3, z108_6, z108_7, z108_10, z108_11, z108_14, z108_17, z108_18, z108_19, z108_20, z108_23, z108_24, z108_27, z108_28, z108_31, z108_32, z108_33, z108_36, z108_37, z108_38, z108_39, z108_40, z108_41, z108_42, z108_43, z108_46, z108_47, z108_48, z108_49, z108_50, z108_52, z108_55, z108_56, z108_59, z108_60, z108_61, z108_62, z108_63, z108_66, z108_67, z108_68, z108_69, z108_70, z108_71, z108_72, z108_73, sm_cti, sm_ctr, sm_ctn, sm_nbi, Option.toList_some, Option.toList_none, List.cons_append, List.nil_append, ne_eq, reduceCtorEq, not_false_eq_true, Nat.reduceLeDiff, kc26, kc59, rf26_7, c012, s012, L0, v1, v2, h12, if_true, if_false, not_true_eq_false, not_false_eq_true, and_true, true_and, and_false, false_and, and_self, or_true, true_or, or_false, false_or, reduceIte, iff_self, Int32.add_zero, y_10, Classical.not_not] at F ⊢
        exact F
    by_cases h12 : nI e = 12
    · simp only [h12, z108_0, z108_1, z108_3, z108_6, z108_7, z108_10, z108_11, z108_14, z108_17, z108_18, z108_19, z108_20, z108_23, z108_24, z108_27, z108_28, z108_31, z108_32, z108_33, z108_36, z108_37, z108_38, z108_39, z108_40, z108_41, z108_42, z108_43, z108_46, z108_47, z108_48, z108_49, z108_50, z108_52, z108_55, z108_56, z108_59, z108_60, z108_61, z108_62, z108_63, z108_66, z108_67, z108_68, z108_69, z108_70, z108_71, z108_72, z108_73, sm_cti, sm_ctr, sm_ctn, sm_nbi, Option.toList_some, Option.toList_none, List.cons_append, List.nil_append, ne_eq, reduceCtorEq, not_false_eq_true, Nat.reduceLeDiff, kc26, rc34, rf26_2, rf26_3, if_true, if_false, not_true_eq_false, not_false_eq_true, and_true, true_and, and_false, false_and, and_self, or_true, true_or, or_false, false_or, reduceIte, iff_self, Int32.add_zero, y_10, Classical.not_not] at go ⊢
      exact go
    · have hx2 : 0 ≤ nI e ∧ nI e < nI D := hx.resolve_left h12
      simp only [h12, hx2, z108_0, z108_1, z108_3, z108_6, z108_7, z108_10, z108_11, z108_14, z108_17, z108_18, z108_19, z108_20, z108_23, z108_24, z108_27, z108_28, z108_31, z108_32, z108_33, z108_36, z108_37, z108_38, z108_39, z108_40, z108_41, z108_42, z108_43, z108_46, z108_47, z108_48, z108_49, z108_50, z108_52, z108_55, z108_56, z108_59, z108_60, z108_61, z108_62, z108_63, z108_66, z108_67, z108_68, z108_69, z108_70, z108_71, z108_72, z108_73, sm_cti, sm_ctr, sm_ctn, sm_nbi, Option.toList_some, Option.toList_none, List.cons_append, List.nil_append, ne_eq, reduceCtorEq, not_false_eq_true, Nat.reduceLeDiff, kc26, rc34, rf26_2, rf26_3, y_isDebt, cF.2.1, y_bit, if_true, if_false, not_true_eq_false, not_false_eq_true, and_true, true_and, and_false, false_and, and_self, or_true, true_or, or_false, false_or, reduceIte, iff_self, Int32.add_zero, y_10, Classical.not_not] at go ⊢
      exact go
  · have h12 : ¬ x = 12 := fun z => hx (Or.inl z)
    have hx2 : ¬ (0 ≤ x ∧ x < nI D) := fun z => hx (Or.inr z)
    simp only [h12, hx2, z108_0, z108_1, z108_3, z108_6, z108_7, z108_10, z108_11, z108_14, z108_17, z108_18, z108_19, z108_20, z108_23, z108_24, z108_27, z108_28, z108_31, z108_32, z108_33, z108_36, z108_37, z108_38, z108_39, z108_40, z108_41, z108_42, z108_43, z108_46, z108_47, z108_48, z108_49, z108_50, z108_52, z108_55, z108_56, z108_59, z108_60, z108_61, z108_62, z108_63, z108_66, z108_67, z108_68, z108_69, z108_70, z108_71, z108_72, z108_73, sm_cti, sm_ctr, sm_ctn, sm_nbi, Option.toList_some, Option.toList_none, List.cons_append, List.nil_append, ne_eq, reduceCtorEq, not_false_eq_true, Nat.reduceLeDiff, kc26, rc34, rf26_2, y_isDebt, cF.2.1, y_bit, if_true, if_false, not_true_eq_false, not_false_eq_true, and_true, true_and, and_false, false_and, and_self, or_true, true_or, or_false, false_or, reduceIte, iff_self, Int32.add_zero, y_10, Classical.not_not]
    refine hK (-1) I J (fun K2 h2 => ?_)
    simp only [h12, hx2, z213_0, z213_1, z213_3, z213_6, z213_7, z213_8, z213_9, z213_12, z213_15, z213_16, z213_17, z213_18, z213_21, z213_22, z213_23, z213_26, z213_27, z213_29, z213_30, z213_33, z213_36, z213_37, z213_40, z213_42, z213_43, z213_44, z213_45, z213_48, z213_49, z213_50, z213_51, z213_52, z213_55, z213_57, z213_58, z213_59, z213_60, z213_63, z213_64, z213_65, z213_66, z213_69, z213_72, z213_73, z213_75, z213_76, z213_79, z213_82, z213_83, z213_86, z213_88, z213_89, z213_90, z213_91, z213_94, z213_95, z213_96, z213_97, z213_100, z213_103, z213_104, z213_107, z213_109, z213_110, z213_113, z213_114, z213_115, z213_118, z213_119, z213_120, z213_121, z213_122, z213_123, z213_124, z213_125, z213_128, z213_129, z213_130, z213_131, z213_132, z213_134, z213_137, z213_138, z213_141, z213_142, z213_143, z213_144, z213_145, z213_148, z213_149, z213_150, z213_151, z213_152, z213_155, z213_156, z213_157, z213_158, z213_161, sm_cti, sm_ctr, sm_ctn, sm_nbi, Option.toList_some, Option.toList_none, List.cons_append, List.nil_append, ne_eq, reduceCtorEq, not_false_eq_true, Nat.reduceLeDiff, rc103, m_isDebtX (show D < 2 ^ 31 by omega) mF.2.1, y_bit, if_true, if_false, not_true_eq_false, not_false_eq_true, and_true, true_and, and_false, false_and, and_self, or_true, true_or, or_false, false_or, reduceIte, iff_self, Int32.add_zero, y_10, Classical.not_not]
    exact h2 I J hI
