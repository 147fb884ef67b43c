/-! the invariant, purely -/
theorem fo_pure {P D : Nat} {I : sm_I} (h : iv_fo P D I) : ∃ f a b : Nat → Nat, bdf P D f a b ∧ cFo P D f a b I ∧ cTa 40 f I ∧ mFo P D f a b I ∧ ∀ p, P ≤ p → p < 8 → f (32 + p) = 0 := by
  obtain ⟨⟨h1, h2, h3, h4, h5, h6⟩, h7, h8, h9⟩ := h
  have hf : ∀ k, k < 54 → I 104 k = nI (I 104 k).toNatClampNeg ∧ (I 104 k).toNatClampNeg ≤ top k := fun k hk => by
    obtain ⟨-, v, v1, v2⟩ := h7 k hk
    have := top_le k
    rw [v2, nI_clamp (by omega)]
    exact ⟨rfl, v1⟩
  have hc : ∀ k q c, k < 54 → clq k = q → clb k = c → I q c = nI (I 104 k).toNatClampNeg := fun k q c hk hq hcb => by
    rw [← (hf k hk).1, ← (h7 k hk).1, hq, hcb]
  have ha : ∀ e, e < D → ∃ x y : Nat, x < P ∧ y < P ∧ x ≠ y ∧ I 38 e = nI x ∧ I 39 e = nI y ∧ I 108 e = nI x ∧ I 109 e = nI y ∧ (I 108 e).toNatClampNeg = x ∧ (I 109 e).toNatClampNeg = y := fun e he => by
    obtain ⟨x, y, x1, x2, x3, x4, x5, x6, x7⟩ := h9 e he
    exact ⟨x, y, x1, x2, x3, x4, x6, x5, x7, by rw [x5, nI_clamp (by omega)], by rw [x7, nI_clamp (by omega)]⟩
  refine ⟨fun k => (I 104 k).toNatClampNeg, fun e => (I 108 e).toNatClampNeg, fun e => (I 109 e).toNatClampNeg, ⟨h1, h2, fun k hk => (hf k hk).2, fun e he => ?_⟩, ⟨h3, h4, hc 52 34 8 (by decide) rfl rfl, fun p hp => ⟨?_, ?_, ?_⟩, fun e he => ?_⟩, ⟨fun p hp => ⟨?_, ?_⟩, fun e he => ?_, hc 53 40 3 (by decide) rfl rfl⟩, ⟨h5, h6, fun k hk => (hf k hk).1, fun e he => ?_⟩, fun p hp1 hp2 => ?_⟩
  · obtain ⟨x, y, x1, x2, x3, x4, x5, x6, x7, x8, x9⟩ := ha e he
    dsimp only
    rw [x8, x9]
    exact ⟨x1, x2, x3⟩
  · refine hc p 35 p (by omega) ?_ ?_
    · unfold clq
      rw [if_pos hp]
    · unfold clb
      rw [if_pos (by omega), Nat.mod_eq_of_lt hp]
  · refine hc (8 + p) 36 p (by omega) ?_ ?_
    · unfold clq
      rw [if_neg (by omega), if_pos (by omega)]
    · unfold clb
      rw [if_pos (by omega)]
      omega
  · refine hc (16 + p) 37 p (by omega) ?_ ?_
    · unfold clq
      rw [if_neg (by omega), if_neg (by omega), if_pos (by omega)]
    · unfold clb
      rw [if_pos (by omega)]
      omega
  · obtain ⟨x, y, x1, x2, x3, x4, x5, x6, x7, x8, x9⟩ := ha e he
    dsimp only
    rw [x8, x9]
    exact ⟨x4, x5⟩
  · refine hc (24 + p) 41 p (by omega) ?_ ?_
    · unfold clq
      rw [if_neg (by omega), if_neg (by omega), if_neg (by omega), if_pos (by omega)]
    · unfold clb
      rw [if_pos (by omega)]
      omega
  · refine hc (32 + p) 42 p (by omega) ?_ ?_
    · unfold clq
      rw [if_neg (by omega), if_neg (by omega), if_neg (by omega), if_neg (by omega), if_pos (by omega)]
    · unfold clb
      rw [if_pos (by omega)]
      omega
  · refine hc (40 + e) 43 e (by omega) ?_ ?_
    · unfold clq
      rw [if_neg (by omega), if_neg (by omega), if_neg (by omega), if_neg (by omega), if_neg (by omega), if_pos (by omega)]
    · unfold clb
      rw [if_neg (by omega), if_pos (by omega)]
      omega
  · obtain ⟨x, y, x1, x2, x3, x4, x5, x6, x7, x8, x9⟩ := ha e he
    dsimp only
    rw [x8, x9]
    exact ⟨x6, x7⟩
  · dsimp only
    rw [h8 p hp1 hp2]
    rfl
theorem fo_back {P D : Nat} {f a b : Nat → Nat} {I : sm_I} (hb : bdf P D f a b) (hF : cFo P D f a b I) (hT : cTa 40 f I) (hM : mFo P D f a b I) (hz : ∀ p, P ≤ p → p < 8 → f (32 + p) = 0) : iv_fo P D I := by
  obtain ⟨b1, b2, b3, b4⟩ := hb
  obtain ⟨F1, F2, F3, F4, F5⟩ := hF
  obtain ⟨T1, T2, T3⟩ := hT
  obtain ⟨M1, M2, M3, M4⟩ := hM
  refine ⟨⟨b1, b2, F1, F2, M1, M2⟩, fun k hk => ⟨?_, f k, b3 k hk, M3 k hk⟩, fun p hp1 hp2 => by rw [M3 _ (by omega), hz p hp1 hp2]; rfl, fun e he => ⟨a e, b e, (b4 e he).1, (b4 e he).2.1, (b4 e he).2.2, (F5 e he).1, (M4 e he).1, (F5 e he).2, (M4 e he).2⟩⟩
  rw [M3 k hk]
  unfold clq clb
  by_cases h1 : k < 8
  · rw [if_pos h1, if_pos (by omega), Nat.mod_eq_of_lt h1, (F4 k h1).1]
  · rw [if_neg h1]
    by_cases h2 : k < 16
    · rw [if_pos h2, if_pos (by omega), show k % 8 = k - 8 by omega, (F4 (k - 8) (by omega)).2.1, show 8 + (k - 8) = k by omega]
    · rw [if_neg h2]
      by_cases h3 : k < 24
      · rw [if_pos h3, if_pos (by omega), show k % 8 = k - 16 by omega, (F4 (k - 16) (by omega)).2.2, show 16 + (k - 16) = k by omega]
      · rw [if_neg h3]
        by_cases h4 : k < 32
        · rw [if_pos h4, if_pos (by omega), show k % 8 = k - 24 by omega, (T1 (k - 24) (by omega)).1, show 24 + (k - 24) = k by omega]
        · rw [if_neg h4]
          by_cases h5 : k < 40
          · rw [if_pos h5, if_pos h5, show k % 8 = k - 32 by omega, (T1 (k - 32) (by omega)).2, show 32 + (k - 32) = k by omega]
          · rw [if_neg h5, if_neg h5]
            by_cases h6 : k < 52
            · rw [if_pos h6, if_pos h6, T2 (k - 40) (by omega), show 40 + (k - 40) = k by omega]
            · rw [if_neg h6, if_neg h6]
              by_cases h7 : k = 52
              · rw [if_pos h7, if_pos h7, F3, h7]
              · rw [if_neg h7, if_neg h7, T3, show k = 53 by omega]
theorem rg0_c {q : Nat} (b : Nat) (h : q = 29 ∨ q = 30 ∨ q = 32 ∨ (44 ≤ q ∧ q < 48) ∨ (60 ≤ q ∧ q < 87)) : rg q b = 0 := by
  have hq : q < 130 := by omega
  rw [rg_b b (by omega) (by omega)]
  have : ∀ q, q < 130 → (q = 29 ∨ q = 30 ∨ q = 32 ∨ (44 ≤ q ∧ q < 48) ∨ (60 ≤ q ∧ q < 87)) → rg q 0 = 0 := by decide
  exact this q hq h
theorem rg0_m {q b : Nat} (h : (112 ≤ q ∧ q < 121 ∧ ¬ q = 117) ∨ (q = 103 ∧ 14 ≤ b ∧ b ≤ 32)) : rg q b = 0 := by
  rcases h with h | ⟨rfl, h1, h2⟩
  · rw [rg_b b (by omega) (by omega)]
    have : ∀ q, q < 130 → (112 ≤ q ∧ q < 121 ∧ ¬ q = 117) → rg q 0 = 0 := by decide
    exact this q (by omega) h
  · have : ∀ b, b < 33 → 14 ≤ b → rg 103 b = 0 := by decide
    exact this b (by omega) h1
theorem ag0 {I I' : sm_I} (h : ∀ x c, ¬ ((x = 29 ∨ x = 30 ∨ x = 32 ∨ (44 ≤ x ∧ x < 48) ∨ (60 ≤ x ∧ x < 87)) ∨ ((112 ≤ x ∧ x < 121 ∧ ¬ x = 117) ∨ (x = 103 ∧ 14 ≤ c ∧ c ≤ 32))) → I' x c = I x c) : ag 0 I I' := by
  intro q b h0 _
  refine h q b (fun z => h0 ?_)
  rcases z with z | z
  · exact rg0_c b z
  · exact rg0_m z
theorem m_isDebtX {D : Nat} {I : sm_I} (hD : D < 2 ^ 31) (h : I 103 7 = nI D) (d n : Nat) (J : sm_J) (K : Option Value → sm_H → Prop) (x : Int32) : sm_Ok (d + 1) 156 0 [.ref 103, .long x.toInt64, .null] [] (sm_SH n, I, J) K ↔ K (some (.int (if 0 ≤ x ∧ x < nI D then 1 else 0))) (sm_SH n, I, J) := by
  rw [m_isDebt, h]
  simp only [y_w0, y_wid, y_pred hD]
theorem m_isOneX {P : Nat} {I : sm_I} (hP : P < 2 ^ 31) (h : I 103 6 = nI P) (d n : Nat) (J : sm_J) (K : Option Value → sm_H → Prop) (x : Int32) : sm_Ok (d + 1) 155 0 [.ref 103, .long x.toInt64, .null] [] (sm_SH n, I, J) K ↔ K (some (.int (if 0 ≤ x ∧ x < nI P then 1 else 0))) (sm_SH n, I, J) := by
  rw [m_isOne, h]
  simp only [y_w0, y_wid, y_pred hP]
theorem pw_moves {n P D : Nat} {I : sm_I} {J : sm_J} (hF : iv_fo P D I) (hL : iv_la I) (x : Int32) : pw n I J 91 [.ref 26, .int x] 184 [.ref 103, .int x] (fun I2 J2 => ag 0 I I2 ∧ J2 = J) := by
  obtain ⟨f, a, b, hb, cF, cT, mF, hz⟩ := fo_pure hF
  obtain ⟨lo, cl, ml⟩ := la_lo hL
  intro d K hK
  have hD := hb.2.1
  by_cases hx : 0 ≤ x ∧ x < nI D
  · obtain ⟨e, he, rfl⟩ := y_idx (show D < 2 ^ 31 by omega) hx
    obtain ⟨c1, c2, c3⟩ := hb.2.2.2 e he
    have h8 := hb.1
    have i38 := (cF.2.2.2.2 e he).1
    have im := (cT.1 (a e) (by omega)).2
    have is := cT.2.1 e (by omega)
    simp only [z91_0, z91_1, z91_4, z91_5, z91_8, z91_11, z91_12, z91_13, z91_14, z91_17, z91_18, z91_19, z91_22, z91_25, z91_26, z91_29, z91_32, z91_33, z91_34, z91_35, z91_36, z91_39, z91_42, z91_43, z91_44, z91_45, z91_48, z91_51, z91_54, sm_cti, sm_ctr, sm_ctn, sm_nbi, Option.toList_some, Option.toList_none, List.cons_append, List.nil_append, ne_eq, reduceCtorEq, not_false_eq_true, Nat.reduceLeDiff, kc26, kc34, kc38, kc40, kc42, kc43, rc34, rf26_2, rf26_3, rf34_3, rf40_1, rf40_2, y_isDebt, cF.2.1, hx, y_bit, i38, im, is, cT.2.2, y_inN (show e < 12 by omega) (by decide), nI_clamp (show e < 2 ^ 31 by omega), y_inN (show a e < 8 by omega) (by decide), nI_clamp (show a e < 2 ^ 31 by omega), if_true, if_false, not_true_eq_false, not_false_eq_true, and_true, true_and, and_false, false_and, and_self, or_true, true_or, or_false, false_or, reduceIte, iff_self, Int32.add_zero, y_10, Classical.not_not]
    refine c_movedBy hb cF cl he _ _ _ (d + 197) n J _ (fun I1 w1 => ?_)
    simp only [z91_0, z91_1, z91_4, z91_5, z91_8, z91_11, z91_12, z91_13, z91_14, z91_17, z91_18, z91_19, z91_22, z91_25, z91_26, z91_29, z91_32, z91_33, z91_34, z91_35, z91_36, z91_39, z91_42, z91_43, z91_44, z91_45, z91_48, z91_51, z91_54, sm_cti, sm_ctr, sm_ctn, sm_nbi, Option.toList_some, Option.toList_none, List.cons_append, List.nil_append, ne_eq, reduceCtorEq, not_false_eq_true, Nat.reduceLeDiff, if_true, if_false, not_true_eq_false, not_false_eq_true, and_true, true_and, and_false, false_and, and_self, or_true, true_or, or_false, false_or, reduceIte, iff_self, Int32.add_zero, y_10, Classical.not_not]
    refine hK _ I1 J (fun K2 h2 => ?_)
    have mF1 : mFo P D f a b I1 := mFo_f mF (fun x c hx => w1 x c (by omega))
    simp only [z184_0, z184_1, z184_2, z184_3, z184_6, z184_9, z184_10, z184_11, z184_12, z184_15, z184_16, z184_17, z184_20, sm_cti, sm_ctr, sm_ctn, sm_nbi, Option.toList_some, Option.toList_none, List.cons_append, List.nil_append, ne_eq, reduceCtorEq, not_false_eq_true, Nat.reduceLeDiff, rc103, m_isDebtX (show D < 2 ^ 31 by omega) mF1.2.1, hx, y_bit, if_true, if_false, not_true_eq_false, not_false_eq_true, and_true, true_and, and_false, false_and, and_self, or_true, true_or, or_false, false_or, reduceIte, iff_self, Int32.add_zero, y_10, Classical.not_not]
    refine m_begins hb mF1 _ n J _ (fun I2 w2 t2 => ?_)
    simp only [z184_0, z184_1, z184_2, z184_3, z184_6, z184_9, z184_10, z184_11, z184_12, z184_15, z184_16, z184_17, z184_20, sm_cti, sm_ctr, sm_ctn, sm_nbi, Option.toList_some, Option.toList_none, List.cons_append, List.nil_append, ne_eq, reduceCtorEq, not_false_eq_true, Nat.reduceLeDiff, rc103, if_true, if_false, not_true_eq_false, not_false_eq_true, and_true, true_and, and_false, false_and, and_self, or_true, true_or, or_false, false_or, reduceIte, iff_self, Int32.add_zero, y_10, Classical.not_not]
    refine m_movesBy hb (mFo_f mF1 (fun x c hx => w2 x c (by omega))) (mLw_f (mLw_f ml (fun x c hx => w1 x c (by omega))) (fun x c hx => w2 x c (by omega))) t2 he (d + 152) n J _ (fun I3 w3 => ?_)
    simp only [z184_0, z184_1, z184_2, z184_3, z184_6, z184_9, z184_10, z184_11, z184_12, z184_15, z184_16, z184_17, z184_20, sm_cti, sm_ctr, sm_ctn, sm_nbi, Option.toList_some, Option.toList_none, List.cons_append, List.nil_append, ne_eq, reduceCtorEq, not_false_eq_true, Nat.reduceLeDiff, if_true, if_false, not_true_eq_false, not_false_eq_true, and_true, true_and, and_false, false_and, and_self, or_true, true_or, or_false, false_or, reduceIte, iff_self, Int32.add_zero, y_10, Classical.not_not]
    exact h2 I3 J ⟨ag0 (fun x c hx => by rw [w3 x c (by omega), w2 x c (by omega), w1 x c (by omega)]), rfl⟩
  · simp only [z91_0, z91_1, z91_4, z91_5, z91_8, z91_11, z91_12, z91_13, z91_14, z91_17, z91_18, z91_19, z91_22, z91_25, z91_26, z91_29, z91_32, z91_33, z91_34, z91_35, z91_36, z91_39, z91_42, z91_43, z91_44, z91_45, z91_48, z91_51, z91_54, sm_cti, sm_ctr, sm_ctn, sm_nbi, Option.toList_some, Option.toList_none, List.cons_append, List.nil_append, ne_eq, reduceCtorEq, not_false_eq_true, Nat.reduceLeDiff, kc26, rc34, rf26_2, y_isDebt, cF.2.1, hx, y_bit, if_true, if_false, not_true_eq_false, not_false_eq_true, and_true, true_and, and_false, false_and, and_self, or_true, true_or, or_false, false_or, reduceIte, iff_self, Int32.add_zero, y_10, Classical.not_not]
    refine hK (-1) I J (fun K2 h2 => ?_)
    simp only [z184_0, z184_1, z184_2, z184_3, z184_6, z184_9, z184_10, z184_11, z184_12, z184_15, z184_16, z184_17, z184_20, sm_cti, sm_ctr, sm_ctn, sm_nbi, Option.toList_some, Option.toList_none, List.cons_append, List.nil_append, ne_eq, reduceCtorEq, not_false_eq_true, Nat.reduceLeDiff, rc103, m_isDebtX (show D < 2 ^ 31 by omega) mF.2.1, hx, y_bit, if_true, if_false, not_true_eq_false, not_false_eq_true, and_true, true_and, and_false, false_and, and_self, or_true, true_or, or_false, false_or, reduceIte, iff_self, Int32.add_zero, y_10, Classical.not_not]
    exact h2 I J ⟨ag_refl _ _, rfl⟩
