/-! both answer alike: feed, law -/
section
variable {t : Nat → Nat} {N : Nat} {xs : Nat → Int32}
theorem c_become {I : sm_I} (d n : Nat) (J : sm_J) (K : Option Value → sm_H → Prop) {w : Nat} (hw : w ≤ 256) : sm_Ok d 26 0 [.ref 27, .ref 32, .int (nI w)] [] (sm_SH n, I, J) K ↔ K none (sm_SH n, sm_cI (sm_uI I 27 3 (nI w)) 32 28 0 0 w, J) := by
  have e4 : Int32.ofNat 256 = 256 := rfl
  have e1 : ¬ (256 : Int32) < 256 := by decide
  have e2 : ¬ (256 : Int32) < nI w := nI_nlt (a := 256) hw (by decide)
  have e3 : (if (0 : Int32) < nI w then nI w else 0) = nI w := by
    rcases Nat.eq_zero_or_pos w with z | z
    · subst z
      rfl
    · rw [if_pos (show (0 : Int32) < nI w from nI_lt (a := 0) z (by omega))]
  have c0 : (0 : Int32).toNatClampNeg = 0 := by decide
  have z0 : ¬ (0 : Int32) < 0 := by decide
  have u3 : sm_uI I 27 3 (nI w) 27 3 = nI w := uI_s _ _ _ _
  have hs : 0 + w ≤ 256 := by omega
  simp only [z26_0, z26_1, z26_2, z26_3, z26_4, z26_5, z26_8, z26_11, z26_14, z26_17, z26_20, z26_21, z26_22, z26_23, z26_26, z26_27, z26_28, z26_31, z26_34, sm_cti, sm_ctr, sm_ctn, sm_nbi, Option.toList_some, Option.toList_none, List.cons_append, List.nil_append, ne_eq, reduceCtorEq, not_false_eq_true, Nat.reduceLeDiff, kc27, kc28, kc32, rf27_0, e4, e1, e2, e3, c0, z0, u3, nI_pos (show w < 2 ^ 31 by omega), nI_clamp (show w < 2 ^ 31 by omega), hs, Nat.le_refl, or_true, true_or, Nat.reduceLeDiff, if_true, if_false, not_true_eq_false, not_false_eq_true, and_true, true_and, and_false, false_and, and_self, or_true, true_or, or_false, false_or, reduceIte, iff_self, Int32.add_zero, y_10, Classical.not_not]
theorem c_law {I : sm_I} (hR : iv_ro xs I) (hT : ctp t N I) (d n : Nat) (J : sm_J) (K : Option Value → sm_H → Prop)
    (hK : ∀ I', (∀ x b, ¬ (x = 27 ∨ x = 28 ∨ x = 31 ∨ x = 32) → I' x b = I x b) → I' 31 2 = 0 → ((pt t N).2.1 = false ∧ (pt t N).1 = N → I' 27 3 = nI (pt t N).2.2.1.length ∧ ∀ j, j < (pt t N).2.2.1.length → I' 28 j = (pt t N).2.2.1.getD j 0) → (¬ ((pt t N).2.1 = false ∧ (pt t N).1 = N) → ∀ x b, x = 27 ∨ x = 28 → I' x b = I x b) → K (some (.int (if (pt t N).2.1 = false ∧ (pt t N).1 = N then 1 else -100 - nI (pt t N).1))) (sm_SH n, I', J)) :
    sm_Ok (d + 79) 90 0 [.ref 26, .null] [] (sm_SH n, I, J) K := by
  have hN := hT.1
  obtain ⟨p1, p2⟩ := pt_gp t N
  simp only [z90_0, z90_1, z90_4, z90_7, z90_8, z90_9, z90_12, z90_13, z90_16, z90_17, z90_20, z90_23, z90_24, z90_27, z90_30, z90_33, z90_34, z90_37, z90_38, z90_41, z90_42, z90_45, z90_46, z90_49, z90_51, z90_52, z90_53, sm_cti, sm_ctr, sm_ctn, sm_nbi, Option.toList_some, Option.toList_none, List.cons_append, List.nil_append, ne_eq, reduceCtorEq, not_false_eq_true, Nat.reduceLeDiff, kc26, rf26_1, rc31, if_true, if_false, not_true_eq_false, not_false_eq_true, and_true, true_and, and_false, false_and, and_self, or_true, true_or, or_false, false_or, reduceIte, iff_self, Int32.add_zero, y_10, Classical.not_not]
  refine c_read hR hT d n J _ (fun I1 f1 f2 f3 => ?_)
  by_cases hok : (pt t N).2.1 = false ∧ (pt t N).1 = N
  · rw [if_pos hok] at hK ⊢
    obtain ⟨w1, w2⟩ := f3 hok.1
    obtain ⟨q1, q2, q3⟩ := p2 hok.1
    have hF : ¬ (0 : Int32) ≤ -1 := by decide
    simp only [z90_0, z90_1, z90_4, z90_7, z90_8, z90_9, z90_12, z90_13, z90_16, z90_17, z90_20, z90_23, z90_24, z90_27, z90_30, z90_33, z90_34, z90_37, z90_38, z90_41, z90_42, z90_45, z90_46, z90_49, z90_51, z90_52, z90_53, sm_cti, sm_ctr, sm_ctn, sm_nbi, Option.toList_some, Option.toList_none, List.cons_append, List.nil_append, ne_eq, reduceCtorEq, not_false_eq_true, Nat.reduceLeDiff, kc26, kc31, rf26_0, rf26_1, rf31_0, rc27, rc31, hF, w1, c_become _ _ _ _ (show (pt t N).2.2.1.length ≤ 256 by omega), if_true, if_false, not_true_eq_false, not_false_eq_true, and_true, true_and, and_false, false_and, and_self, or_true, true_or, or_false, false_or, reduceIte, iff_self, Int32.add_zero, y_10, Classical.not_not]
    refine hK _ (fun x b hx => ?_) (uI_s _ _ _ _) (fun _ => ⟨?_, fun j hj => ?_⟩) (fun z => absurd hok z)
    · rw [uI_q _ _ (by omega)]
      unfold sm_cI
      rw [if_neg (by omega), uI_q _ _ (by omega), f1 x b (by omega)]
    · rw [uI_q _ _ (by omega)]
      unfold sm_cI
      rw [if_neg (by omega), uI_s]
    · rw [uI_q _ _ (by omega)]
      unfold sm_cI va_cpy
      rw [if_pos rfl, if_pos ⟨by omega, by omega⟩, uI_q _ _ (by omega), Nat.zero_add, Nat.sub_zero, w2 j hj]
  · rw [if_neg hok] at hK ⊢
    have hF : (0 : Int32) ≤ nI (pt t N).1 := nI_pos' (by omega)
    simp only [z90_0, z90_1, z90_4, z90_7, z90_8, z90_9, z90_12, z90_13, z90_16, z90_17, z90_20, z90_23, z90_24, z90_27, z90_30, z90_33, z90_34, z90_37, z90_38, z90_41, z90_42, z90_45, z90_46, z90_49, z90_51, z90_52, z90_53, sm_cti, sm_ctr, sm_ctn, sm_nbi, Option.toList_some, Option.toList_none, List.cons_append, List.nil_append, ne_eq, reduceCtorEq, not_false_eq_true, Nat.reduceLeDiff, kc26, kc31, rf26_1, hF, if_true, if_false, not_true_eq_false, not_false_eq_true, and_true, true_and, and_false, false_and, and_self, or_true, true_or, or_false, false_or, reduceIte, iff_self, Int32.add_zero, y_10, Classical.not_not]
    exact hK _ (fun x b hx => by rw [uI_q _ _ (by omega), f1 x b (by omega)]) (uI_s _ _ _ _) (fun z => absurd z hok) (fun _ x b hx => by rw [uI_q _ _ (by omega), f1 x b (by omega)])
end
theorem rg_b {q : Nat} (b : Nat) (h1 : ¬ q = 31) (h2 : ¬ q = 103) : rg q b = rg q 0 := by
  unfold rg
  simp only [h1, h2, if_false]
theorem rg_big {q : Nat} (b : Nat) (h : 130 ≤ q) : rg q b = 0 := by
  unfold rg
  rw [if_neg (by omega), if_neg (by omega), if_neg (by omega), if_neg (by omega), if_neg (by omega), if_neg (by omega), if_neg (by omega), if_neg (by omega), if_neg (by omega), if_neg (by omega), if_neg (by omega), if_neg (by omega), if_neg (by omega), if_neg (by omega), if_neg (by omega), if_neg (by omega), if_neg (by omega), if_neg (by omega), if_neg (by omega), if_neg (by omega), if_neg (by omega), if_neg (by omega), if_neg (by omega), if_neg (by omega)]
theorem rg_103 {b : Nat} (h : 48 ≤ b) : rg 103 b = 0 := by
  show (if b = 4 ∨ b = 5 then 3 else if b = 6 ∨ b = 7 then 2 else if b = 11 then 4 else if b = 13 then 5 else if b = 33 ∨ b = 34 ∨ b = 35 then 6 else if b = 38 ∨ b = 41 then 7 else 0) = 0
  rw [if_neg (by omega), if_neg (by omega), if_neg (by omega), if_neg (by omega), if_neg (by omega), if_neg (by omega)]
theorem rg5 {q b : Nat} (h : rg q b = 5) : q = 27 ∨ q = 28 ∨ (q = 103 ∧ b = 13) ∨ q = 111 := by
  by_cases h1 : q = 31
  · subst h1
    exfalso
    have e : rg 31 b = if b = 2 then 4 else 0 := rfl
    rw [e] at h
    by_cases hb : b = 2
    · rw [if_pos hb] at h
      exact absurd h (by decide)
    · rw [if_neg hb] at h
      exact absurd h (by decide)
  · by_cases h2 : q = 103
    · subst h2
      rcases Nat.lt_or_ge b 48 with hb | hb
      · have : ∀ b, b < 48 → rg 103 b = 5 → b = 13 := by decide
        exact Or.inr (Or.inr (Or.inl ⟨rfl, this b hb h⟩))
      · rw [rg_103 hb] at h
        exact absurd h (by decide)
    · rcases Nat.lt_or_ge q 130 with hq | hq
      · rw [rg_b b h1 h2] at h
        have : ∀ q, q < 130 → ¬ q = 103 → rg q 0 = 5 → q = 27 ∨ q = 28 ∨ q = 111 := by decide
        have := this q hq h2 h
        omega
      · rw [rg_big b hq] at h
        exact absurd h (by decide)
theorem pw_law {n : Nat} {xs : Nat → Int32} {I : sm_I} {J : sm_J} (hR : iv_ro xs I) (hA : iv_ta I) (hL : iv_la I) : pw n I J 90 [.ref 26, .null] 178 [.ref 103, .null, .null, .null] (fun I2 J2 => (∀ q b, rg q b ≠ 0 → rg q b ≠ 4 → rg q b ≠ 5 → I2 q b = I q b) ∧ J2 = J ∧ iv_ta I2 ∧ iv_la I2) := by
  obtain ⟨t, N, hT, h11, hb⟩ := ta_t hA
  intro d K hK
  refine c_law hR hT (d + 121) n J K (fun I1 f1 f2 f3 f4 => ?_)
  refine hK _ I1 J (fun K2 h2 => ?_)
  refine m_law hT.1 (fun j hj => (hT.2.2 j hj).1) (by rw [f1 _ _ (by omega), h11]) (fun j hj => by rw [f1 _ _ (by omega), hb j hj]) (d + 153) n J K2 (fun I2 g1 g2 g3 g4 => ?_)
  refine h2 I2 J ⟨fun q b r0 r4 r5 => ?_, rfl, ⟨0, by decide, ?_, g2, fun j hj => absurd hj (Nat.not_lt_zero _)⟩, ?_⟩
  · have n1 : ¬ (q = 103 ∧ 11 ≤ b ∧ b ≤ 18) := by
      rintro ⟨rfl, z1, z2⟩
      rcases (show b = 11 ∨ b = 12 ∨ b = 13 ∨ b = 14 ∨ b = 15 ∨ b = 16 ∨ b = 17 ∨ b = 18 by omega) with rfl | rfl | rfl | rfl | rfl | rfl | rfl | rfl
      · exact r4 rfl
      · exact r0 rfl
      · exact r5 rfl
      all_goals exact r0 rfl
    have n2 : ¬ q = 111 := by
      rintro rfl
      exact r5 rfl
    rw [g1 q b n1 n2]
    refine f1 q b ?_
    rintro (rfl | rfl | rfl | rfl)
    · exact r5 rfl
    · exact r5 rfl
    · by_cases e : b = 2
      · subst e
        exact r4 rfl
      · refine r0 ?_
        unfold rg
        simp [e]
    · exact r0 rfl
  · rw [g1 _ _ (by omega) (by omega), f2]
    rfl
  · by_cases hok : (pt t N).2.1 = false ∧ (pt t N).1 = N
    · obtain ⟨a1, a2⟩ := f3 hok
      obtain ⟨b1, b2⟩ := g3 hok
      exact Or.inr ⟨t, N, ⟨hT.1, fun j hj => (hT.2.2 j hj).1, hok.1, hok.2, by rw [g1 _ _ (by omega) (by omega), a1], fun j hj => by rw [g1 _ _ (by omega) (by omega), a2 j hj]⟩, b1, b2⟩
    · refine iv_la_f hL (fun q b hq => ?_)
      obtain ⟨b1, b2⟩ := g4 hok
      have hc : q = 27 ∨ q = 28 ∨ (q = 103 ∧ b = 13) ∨ q = 111 := by
        exact rg5 hq
      rcases hc with rfl | rfl | ⟨rfl, rfl⟩ | rfl
      · rw [g1 _ _ (by omega) (by omega), f4 hok _ _ (by omega)]
      · rw [g1 _ _ (by omega) (by omega), f4 hok _ _ (by omega)]
      · rw [b1, f1 _ _ (by omega)]
      · rw [b2, f1 _ _ (by omega)]
theorem c_feed {I : sm_I} (d n : Nat) (J : sm_J) (K : Option Value → sm_H → Prop) {N : Nat} (hN : N ≤ 120) (h2 : I 31 2 = nI N) (x : Int32) : sm_Ok (d + 1) 89 0 [.ref 26, .int x] [] (sm_SH n, I, J) K ↔ if 0 ≤ x ∧ x ≤ 255 then (if N = 120 then K (some (.int (-3))) (sm_SH n, I, J) else K (some (.int (nI (N + 1)))) (sm_SH n, sm_uI (sm_uI I 33 N x) 31 2 (nI (N + 1)), J)) else K (some (.int (-1))) (sm_SH n, I, J) := by
  by_cases hx : 0 ≤ x ∧ x ≤ 255
  · rw [if_pos hx]
    by_cases h120 : N = 120
    · have e1 : ¬ nI N < 120 := by rw [h120]; decide
      simp only [z89_0, z89_1, z89_4, z89_7, z89_10, z89_11, z89_12, z89_13, z89_16, z89_17, z89_20, z89_23, z89_24, z89_27, z89_30, z89_33, z89_35, z31_10_0, z31_10_1, z31_32_0, z31_32_1, z31_0, z31_1, z31_4, z31_6, z31_9, z31_10, z31_11, z31_12, z31_15, z31_16, z31_19, z31_20, z31_21, z31_22, z31_23, z31_26, z31_27, z31_28, z31_31, z31_32, sm_cti, sm_ctr, sm_ctn, sm_nbi, Option.toList_some, Option.toList_none, List.cons_append, List.nil_append, ne_eq, reduceCtorEq, not_false_eq_true, Nat.reduceLeDiff, kc26, kc31, rf26_1, rc31, y_within, hx, h2, e1, y_bit, h120, if_true, if_false, not_true_eq_false, not_false_eq_true, and_true, true_and, and_false, false_and, and_self, or_true, true_or, or_false, false_or, reduceIte, iff_self, Int32.add_zero, y_10, Classical.not_not]
      simp only [show nI 120 < 120 ↔ False by decide, z89_0, z89_1, z89_4, z89_7, z89_10, z89_11, z89_12, z89_13, z89_16, z89_17, z89_20, z89_23, z89_24, z89_27, z89_30, z89_33, z89_35, z31_10_0, z31_10_1, z31_32_0, z31_32_1, z31_0, z31_1, z31_4, z31_6, z31_9, z31_10, z31_11, z31_12, z31_15, z31_16, z31_19, z31_20, z31_21, z31_22, z31_23, z31_26, z31_27, z31_28, z31_31, z31_32, sm_cti, sm_ctr, sm_ctn, sm_nbi, Option.toList_some, Option.toList_none, List.cons_append, List.nil_append, ne_eq, reduceCtorEq, not_false_eq_true, Nat.reduceLeDiff, if_true, if_false, not_true_eq_false, not_false_eq_true, and_true, true_and, and_false, false_and, and_self, or_true, true_or, or_false, false_or, reduceIte, iff_self, Int32.add_zero, y_10, Classical.not_not]
    · have e1 : nI N < 120 := nI_lt (b := 120) (by omega) (by decide)
      have e2 : ¬ (120 : Int32) ≤ nI N := nI_ge (b := 120) (by omega) (by decide)
      have e3 : sm_uI I 33 N x 31 2 = nI N := by rw [uI_q _ _ (by omega), h2]
      have e4 : sm_uI (sm_uI I 33 N x) 31 2 (nI (N + 1)) 31 2 = nI (N + 1) := uI_s _ _ _ _
      simp only [z89_0, z89_1, z89_4, z89_7, z89_10, z89_11, z89_12, z89_13, z89_16, z89_17, z89_20, z89_23, z89_24, z89_27, z89_30, z89_33, z89_35, z31_10_0, z31_10_1, z31_32_0, z31_32_1, z31_0, z31_1, z31_4, z31_6, z31_9, z31_10, z31_11, z31_12, z31_15, z31_16, z31_19, z31_20, z31_21, z31_22, z31_23, z31_26, z31_27, z31_28, z31_31, z31_32, sm_cti, sm_ctr, sm_ctn, sm_nbi, Option.toList_some, Option.toList_none, List.cons_append, List.nil_append, ne_eq, reduceCtorEq, not_false_eq_true, Nat.reduceLeDiff, kc26, kc31, kc33, rf26_1, rf31_3, rc31, y_within, hx, h2, e1, e2, e3, e4, y_bit, h120, y_inN (show N < 120 by omega) (by decide), nI_clamp (show N < 2 ^ 31 by omega), nI_1, if_true, if_false, not_true_eq_false, not_false_eq_true, and_true, true_and, and_false, false_and, and_self, or_true, true_or, or_false, false_or, reduceIte, iff_self, Int32.add_zero, y_10, Classical.not_not]
  · rw [if_neg hx]
    simp only [z89_0, z89_1, z89_4, z89_7, z89_10, z89_11, z89_12, z89_13, z89_16, z89_17, z89_20, z89_23, z89_24, z89_27, z89_30, z89_33, z89_35, sm_cti, sm_ctr, sm_ctn, sm_nbi, Option.toList_some, Option.toList_none, List.cons_append, List.nil_append, ne_eq, reduceCtorEq, not_false_eq_true, Nat.reduceLeDiff, y_within, hx, y_bit, if_true, if_false, not_true_eq_false, not_false_eq_true, and_true, true_and, and_false, false_and, and_self, or_true, true_or, or_false, false_or, reduceIte, iff_self, Int32.add_zero, y_10, Classical.not_not]
theorem m_feed {I : sm_I} (d n : Nat) (J : sm_J) (K : Option Value → sm_H → Prop) {N : Nat} (hN : N ≤ 120) (h2 : I 103 11 = nI N) (x : Int32) : sm_Ok (d + 1) 166 0 [.ref 103, .int x] [] (sm_SH n, I, J) K ↔ if 0 ≤ x ∧ x ≤ 255 then (if N = 120 then K (some (.int (-3))) (sm_SH n, I, J) else K (some (.int (nI (N + 1)))) (sm_SH n, sm_uI (sm_uI I 110 N x) 103 11 (nI (N + 1)), J)) else K (some (.int (-1))) (sm_SH n, I, J) := by
  have e0 : (nI N = 120) = (N = 120) := propext (nI_eq (b := 120) (by omega) (by decide))
  by_cases hx : 0 ≤ x ∧ x ≤ 255
  · rw [if_pos hx]
    by_cases h120 : N = 120
    · simp only [z166_0, z166_1, z166_2, z166_3, z166_6, z166_9, z166_12, z166_13, z166_14, z166_15, z166_18, z166_20, z166_23, z166_25, z166_26, z166_27, z166_30, z166_31, z166_34, z166_35, z166_36, z166_37, z166_38, z166_41, z166_42, z166_43, z166_46, z166_47, z166_50, sm_cti, sm_ctr, sm_ctn, sm_nbi, Option.toList_some, Option.toList_none, List.cons_append, List.nil_append, ne_eq, reduceCtorEq, not_false_eq_true, Nat.reduceLeDiff, kc103, rc103, m_within, y_w0, y_v255, hx, h2, e0, y_bit, h120, show nI 120 = 120 from rfl, if_true, if_false, not_true_eq_false, not_false_eq_true, and_true, true_and, and_false, false_and, and_self, or_true, true_or, or_false, false_or, reduceIte, iff_self, Int32.add_zero, y_10, Classical.not_not]
    · have e3 : sm_uI I 110 N x 103 11 = nI N := by rw [uI_q _ _ (by omega), h2]
      have e4 : sm_uI (sm_uI I 110 N x) 103 11 (nI (N + 1)) 103 11 = nI (N + 1) := uI_s _ _ _ _
      simp only [z166_0, z166_1, z166_2, z166_3, z166_6, z166_9, z166_12, z166_13, z166_14, z166_15, z166_18, z166_20, z166_23, z166_25, z166_26, z166_27, z166_30, z166_31, z166_34, z166_35, z166_36, z166_37, z166_38, z166_41, z166_42, z166_43, z166_46, z166_47, z166_50, sm_cti, sm_ctr, sm_ctn, sm_nbi, Option.toList_some, Option.toList_none, List.cons_append, List.nil_append, ne_eq, reduceCtorEq, not_false_eq_true, Nat.reduceLeDiff, kc103, kc110, rf103_10, m_within, y_w0, y_v255, hx, h2, e0, e3, e4, y_bit, h120, y_inN (show N < 120 by omega) (by decide), nI_clamp (show N < 2 ^ 31 by omega), nI_1, if_true, if_false, not_true_eq_false, not_false_eq_true, and_true, true_and, and_false, false_and, and_self, or_true, true_or, or_false, false_or, reduceIte, iff_self, Int32.add_zero, y_10, Classical.not_not]
  · rw [if_neg hx]
    simp only [z166_0, z166_1, z166_2, z166_3, z166_6, z166_9, z166_12, z166_13, z166_14, z166_15, z166_18, z166_20, z166_23, z166_25, z166_26, z166_27, z166_30, z166_31, z166_34, z166_35, z166_36, z166_37, z166_38, z166_41, z166_42, z166_43, z166_46, z166_47, z166_50, sm_cti, sm_ctr, sm_ctn, sm_nbi, Option.toList_some, Option.toList_none, List.cons_append, List.nil_append, ne_eq, reduceCtorEq, not_false_eq_true, Nat.reduceLeDiff, m_within, y_w0, y_v255, hx, y_bit, if_true, if_false, not_true_eq_false, not_false_eq_true, and_true, true_and, and_false, false_and, and_self, or_true, true_or, or_false, false_or, reduceIte, iff_self, Int32.add_zero, y_10, Classical.not_not]
theorem pr_feed {n : Nat} {I : sm_I} {J : sm_J} (hA : iv_ta I) (x : Int32) : pr n I J 89 [.ref 26, .int x] 166 [.ref 103, .int x] (fun I2 J2 => ag 4 I I2 ∧ J2 = J ∧ iv_ta I2) := by
  obtain ⟨N, hN, a1, a2, a3⟩ := id hA
  by_cases hx : 0 ≤ x ∧ x ≤ 255
  · by_cases h120 : N = 120
    · refine ⟨.int (-3), I, J, I, J, fun d K => ?_, fun d K => ?_, ag_refl _ _, rfl, hA⟩
      · rw [c_feed _ n J K hN a1, if_pos hx, if_pos h120]
      · rw [m_feed _ n J K hN a2, if_pos hx, if_pos h120]
    · refine ⟨.int (nI (N + 1)), sm_uI (sm_uI I 33 N x) 31 2 (nI (N + 1)), J, sm_uI (sm_uI (sm_uI (sm_uI I 33 N x) 31 2 (nI (N + 1))) 110 N x) 103 11 (nI (N + 1)), J, fun d K => ?_, fun d K => ?_, ?_, rfl, ?_⟩
      · rw [c_feed _ n J K hN a1, if_pos hx, if_neg h120]
      · rw [m_feed _ n J K hN (by rw [uI_q _ _ (by omega), uI_q _ _ (by omega), a2]), if_pos hx, if_neg h120]
      · exact ag_u (ag_u (ag_u (ag_u (ag_refl _ _) (Or.inr rfl)) (Or.inr rfl)) (Or.inr rfl)) (Or.inr rfl)
      · obtain ⟨v, hv, rfl⟩ := nI_of2 (M := 255) (n := 255) (by decide) (Int32.not_lt.mpr hx.1) hx.2
        refine ⟨N + 1, by omega, ?_, uI_s _ _ _ _, fun j hj => ?_⟩
        · rw [uI_q _ _ (by omega), uI_q _ _ (by omega), uI_s]
        · by_cases e : j = N
          · subst e
            refine ⟨v, hv, ?_, ?_⟩
            · rw [uI_q _ _ (by omega), uI_q _ _ (by omega), uI_q _ _ (by omega), uI_s]
            · rw [uI_q _ _ (by omega), uI_s]
          · obtain ⟨u, u1, u2, u3⟩ := a3 j (by omega)
            refine ⟨u, u1, ?_, ?_⟩
            · rw [uI_q _ _ (by omega), uI_q _ _ (by omega), uI_q _ _ (by omega), uI_o _ _ (by omega), u2]
            · rw [uI_q _ _ (by omega), uI_o _ _ (by omega), uI_q _ _ (by omega), uI_q _ _ (by omega), u3]
  · refine ⟨.int (-1), I, J, I, J, fun d K => ?_, fun d K => ?_, ag_refl _ _, rfl, hA⟩
    · rw [c_feed _ n J K hN a1, if_neg hx]
    · rw [m_feed _ n J K hN a2, if_neg hx]
