/-! both answer alike: help -/
def lwc (W : Nat → Int32) (z : Int32) : Nat → Int32
  | 0 => z
  | k + 1 => if W k < lwc W z k then W k else lwc W z k
theorem lwc_s {W : Nat → Int32} {z : Int32} {k : Nat} : lwc W z (k + 1) = if W k < lwc W z k then W k else lwc W z k := rfl
theorem lwc_eq {W : Nat → Int32} {z y : Int32} (hz : W 0 < z) (hy : W 0 < y) : ∀ k, lwc W z (k + 1) = lwc W y (k + 1)
  | 0 => by
    show (if W 0 < z then W 0 else z) = if W 0 < y then W 0 else y
    rw [if_pos hz, if_pos hy]
  | k + 1 => by rw [lwc_s, lwc_s (z := y), lwc_eq hz hy k]
theorem y_mn (x y : Int32) : (if x < y then x else y) = if y < x then y else x := by
  by_cases h : x < y
  · rw [if_pos h, if_neg (Int32.not_lt.mpr (Int32.le_of_lt h))]
  · rw [if_neg h]
    by_cases h2 : y < x
    · rw [if_pos h2]
    · rw [if_neg h2]
      exact Int32.le_antisymm (Int32.not_lt.mp h) (Int32.not_lt.mp h2)
theorem uI_back (I : sm_I) (q k : Nat) (v w : Int32) (hw : w = I q k) : sm_uI (sm_uI I q k v) q k w = I := by
  funext x c
  by_cases h : x = q ∧ c = k
  · obtain ⟨rfl, rfl⟩ := h
    rw [uI_s, hw]
  · rw [uI_o _ _ h, uI_o _ _ h]
section
variable {P D : Nat} {f a b : Nat → Nat}
theorem fv_s (f : Nat → Nat) (q v : Nat) : fv f q v q = v := by
  unfold fv
  rw [if_pos rfl]
theorem fv_o (f : Nat → Nat) {q v k : Nat} (h : ¬ k = q) : fv f q v k = f k := by
  unfold fv
  rw [if_neg h]
theorem wth_lt {g : Nat → Nat} {o : Nat} (hD : D ≤ 12) (hp : g (24 + o) ≤ 999) (hg : ∀ j, j < D → g (40 + j) ≤ 999) : wth a b g D o < 1000000 ∧ wth a b g D o < 2147483647 := by
  obtain ⟨h1, h2⟩ := clm_bd (a := a) (b := b) (g := g) (o := o) D hD hg
  have e1 := nI_toInt (show g (24 + o) < 2 ^ 31 by omega)
  have e : (wth a b g D o).toInt = (g (24 + o) : Int) + (clm a b g o D).toInt := by
    unfold wth
    rw [Int32.toInt_add, e1, Int.bmod_eq_of_le (by omega) (by omega)]
  rw [Int32.lt_iff_toInt_lt, Int32.lt_iff_toInt_lt, e]
  have k1 : (1000000 : Int32).toInt = 1000000 := by decide
  have k2 : (2147483647 : Int32).toInt = 2147483647 := by decide
  omega
theorem c_le_lp {I : sm_I} (hb : bdf P D f a b) (hF : cFo P D f a b I) {q : Nat} (hq : tq q) {g : Nat → Nat} (hT : cTa q g I) (d n : Nat) (J : sm_J) (K : Option Value → sm_H → Prop) : ∀ (w k : Nat), k + w = P →
    (sm_Ok (d + 2) 20 5 [.ref 34, .ref q, .int (lwc (wth a b g D) 2147483647 k), .int (nI k)] [] (sm_SH n, I, J) K ↔ K (some (.int (lwc (wth a b g D) 2147483647 P))) (sm_SH n, I, J))
  | 0, k, h => by
    have hk : k = P := by omega
    subst hk
    rw [z20_5]
    simp only [z20_2, z20_3, z20_4, z20_6, z20_7, z20_10, z20_13, z20_14, z20_15, z20_16, z20_17, z20_20, z20_23, z20_24, z20_27, z20_30, z20_31, sm_cti, sm_ctr, sm_ctn, sm_nbi, Option.toList_some, Option.toList_none, List.cons_append, List.nil_append, ne_eq, reduceCtorEq, not_false_eq_true, Nat.reduceLeDiff, kc34, hF.1, Int32.le_refl, if_true, if_false, not_true_eq_false, not_false_eq_true, and_true, true_and, and_false, false_and, and_self, or_true, true_or, or_false, false_or, reduceIte, iff_self, Int32.add_zero, y_10, Classical.not_not]
  | w + 1, k, h => by
    have hP := hb.1
    have e0 : ¬ nI P ≤ nI k := nI_ge (show k < P by omega) (by omega)
    rw [← c_le_lp hb hF hq hT d n J K w (k + 1) (by omega), z20_5, lwc_s]
    simp only [z20_2, z20_3, z20_4, z20_6, z20_7, z20_10, z20_13, z20_14, z20_15, z20_16, z20_17, z20_20, z20_23, z20_24, z20_27, z20_30, z20_31, sm_cti, sm_ctr, sm_ctn, sm_nbi, Option.toList_some, Option.toList_none, List.cons_append, List.nil_append, ne_eq, reduceCtorEq, not_false_eq_true, Nat.reduceLeDiff, kc34, rc34, hF.1, e0, c_worth hb hF hq hT (show k < 8 by omega), nI_1, if_true, if_false, not_true_eq_false, not_false_eq_true, and_true, true_and, and_false, false_and, and_self, or_true, true_or, or_false, false_or, reduceIte, iff_self, Int32.add_zero, y_10, Classical.not_not]
theorem c_leastW {I : sm_I} (hb : bdf P D f a b) (hF : cFo P D f a b I) {q : Nat} (hq : tq q) {g : Nat → Nat} (hT : cTa q g I) (d n : Nat) (J : sm_J) (K : Option Value → sm_H → Prop) :
    sm_Ok (d + 2) 20 0 [.ref 34, .ref q, .null, .null] [] (sm_SH n, I, J) K ↔ K (some (.int (lwc (wth a b g D) 2147483647 P))) (sm_SH n, I, J) := by
  rw [← c_le_lp hb hF hq hT d n J K P 0 (by omega), z20_0]
  simp only [z20_2, z20_3, z20_4, sm_cti, sm_ctr, sm_ctn, sm_nbi, Option.toList_some, Option.toList_none, List.cons_append, List.nil_append, ne_eq, reduceCtorEq, not_false_eq_true, Nat.reduceLeDiff, if_true, if_false, not_true_eq_false, not_false_eq_true, and_true, true_and, and_false, false_and, and_self, or_true, true_or, or_false, false_or, reduceIte, iff_self, Int32.add_zero, y_10, Classical.not_not]
  exact Iff.rfl
/-- the least that one is worth if a debt is let off -/
def hlw (P D : Nat) (f a b : Nat → Nat) (z : Int32) (e : Nat) : Int32 := lwc (wth a b (fv f (40 + e) 0) D) z P
theorem c_hp_lp {I : sm_I} (hb : bdf P D f a b) (hF : cFo P D f a b I) (hT : cTa 40 f I) (x : Int32) (d n : Nat) (J : sm_J) (K : Option Value → sm_H → Prop) : ∀ (w k : Nat), k + w = D → ∀ (I1 : sm_I) (x5 : Value), x5.category = 1 → (∀ x c, ¬ (44 ≤ x ∧ x < 48) → I1 x c = I x c) →
    (∀ I', (∀ x c, ¬ (44 ≤ x ∧ x < 48) → I' x c = I x c) → K (some (.int (if x = 0 then ri (rch (hlw P D f a b 2147483647) D) else rm (-2) (hlw P D f a b 2147483647) (rch (hlw P D f a b 2147483647) D)))) (sm_SH n, I', J)) →
    sm_Ok (d + 3) 100 20 [.ref 26, .int x, .int (ri (rch (hlw P D f a b 2147483647) k)), .int (rm (-2) (hlw P D f a b 2147483647) (rch (hlw P D f a b 2147483647) k)), .int (nI k), x5] [] (sm_SH n, I1, J) K
  | 0, k, h, I1, x5, hx, f1, hK => by
    have hk : k = D := by omega
    subst hk
    have e1 : I1 34 7 = nI k := by rw [f1 _ _ (by omega), hF.2.1]
    rw [z100_20]
    by_cases h0 : x = 0
    · simp only [z100_1, z100_2, z100_5, z100_8, z100_10, z100_11, z100_13, z100_14, z100_16, z100_17, z100_18, z100_22, z100_23, z100_26, z100_29, z100_32, z100_33, z100_36, z100_37, z100_40, z100_43, z100_44, z100_47, z100_50, z100_52, z100_53, z100_54, z100_55, z100_58, z100_59, z100_62, z100_65, z100_67, z100_68, z100_70, z100_73, z100_75, z100_76, z100_79, z100_81, z100_82, z100_84, z100_85, z100_88, z100_91, z100_92, z100_95, z100_96, z100_99, z100_100, sm_cti, sm_ctr, sm_ctn, sm_nbi, Option.toList_some, Option.toList_none, List.cons_append, List.nil_append, ne_eq, reduceCtorEq, not_false_eq_true, Nat.reduceLeDiff, kc26, kc34, rf26_2, e1, h0, Int32.le_refl, if_true, if_false, not_true_eq_false, not_false_eq_true, and_true, true_and, and_false, false_and, and_self, or_true, true_or, or_false, false_or, reduceIte, iff_self, Int32.add_zero, y_10, Classical.not_not]
      have := hK I1 f1
      rw [if_pos h0] at this
      exact this
    · simp only [z100_1, z100_2, z100_5, z100_8, z100_10, z100_11, z100_13, z100_14, z100_16, z100_17, z100_18, z100_22, z100_23, z100_26, z100_29, z100_32, z100_33, z100_36, z100_37, z100_40, z100_43, z100_44, z100_47, z100_50, z100_52, z100_53, z100_54, z100_55, z100_58, z100_59, z100_62, z100_65, z100_67, z100_68, z100_70, z100_73, z100_75, z100_76, z100_79, z100_81, z100_82, z100_84, z100_85, z100_88, z100_91, z100_92, z100_95, z100_96, z100_99, z100_100, sm_cti, sm_ctr, sm_ctn, sm_nbi, Option.toList_some, Option.toList_none, List.cons_append, List.nil_append, ne_eq, reduceCtorEq, not_false_eq_true, Nat.reduceLeDiff, kc26, kc34, rf26_2, e1, h0, Int32.le_refl, if_true, if_false, not_true_eq_false, not_false_eq_true, and_true, true_and, and_false, false_and, and_self, or_true, true_or, or_false, false_or, reduceIte, iff_self, Int32.add_zero, y_10, Classical.not_not]
      have := hK I1 f1
      rw [if_neg h0] at this
      exact this
  | w + 1, k, h, I1, x5, hx, f1, hK => by
    have hk : k < D := by omega
    have hD := hb.2.1
    have e1 : I1 34 7 = nI D := by rw [f1 _ _ (by omega), hF.2.1]
    have e0 : ¬ nI D ≤ nI k := nI_ge hk (by omega)
    have hm2 : ((-2 : Int32) = -2) = True := eq_true rfl
    rw [z100_20]
    simp only [z100_1, z100_2, z100_5, z100_8, z100_10, z100_11, z100_13, z100_14, z100_16, z100_17, z100_18, z100_22, z100_23, z100_26, z100_29, z100_32, z100_33, z100_36, z100_37, z100_40, z100_43, z100_44, z100_47, z100_50, z100_52, z100_53, z100_54, z100_55, z100_58, z100_59, z100_62, z100_65, z100_67, z100_68, z100_70, z100_73, z100_75, z100_76, z100_79, z100_81, z100_82, z100_84, z100_85, z100_88, z100_91, z100_92, z100_95, z100_96, z100_99, z100_100, sm_cti, sm_ctr, sm_ctn, sm_nbi, Option.toList_some, Option.toList_none, List.cons_append, List.nil_append, ne_eq, reduceCtorEq, not_false_eq_true, Nat.reduceLeDiff, kc26, kc34, rc44, rf26_2, rf26_3, rf26_4, e1, e0, if_true, if_false, not_true_eq_false, not_false_eq_true, and_true, true_and, and_false, false_and, and_self, or_true, true_or, or_false, false_or, reduceIte, iff_self, Int32.add_zero, y_10, Classical.not_not]
    refine c_bec (q := 40) (r := 44) (Or.inl rfl) (Or.inr (Or.inl rfl)) (by decide) (cTa_f hT (fun x c h1 h2 => f1 x c (by omega))) (d + 1) n J _ (fun I2 w2 t2 => ?_)
    have hF2 : cFo P D f a b (sm_uI I2 47 k 0) := cFo_f hF (fun x c h1 h2 => by rw [uI_q _ _ (by omega), w2 _ _ (by omega), f1 _ _ (by omega)])
    have hT2 : cTa 44 (fv f (40 + k) 0) (sm_uI I2 47 k 0) := by
      refine ⟨fun p hp => ⟨?_, ?_⟩, fun e he => ?_, ?_⟩
      · rw [uI_q _ _ (by omega), (t2.1 p hp).1, fv_o _ (by omega)]
      · rw [uI_q _ _ (by omega), (t2.1 p hp).2, fv_o _ (by omega)]
      · by_cases hek : e = k
        · subst hek
          rw [uI_s, fv_s]
          rfl
        · rw [uI_o _ _ (by omega), t2.2.1 e he, fv_o _ (by omega)]
      · rw [uI_q _ _ (by omega), t2.2.2, fv_o _ (by omega)]
    have lw : ∀ K, sm_Ok (d + 2) 20 0 [.ref 34, .ref 44, .null, .null] [] (sm_SH n, sm_uI I2 47 k 0, J) K ↔ K (some (.int (hlw P D f a b 2147483647 k))) (sm_SH n, sm_uI I2 47 k 0, J) := fun K => c_leastW hb hF2 (Or.inr (Or.inl rfl)) hT2 d n J K
    have hs : rch (hlw P D f a b 2147483647) (k + 1) = match rch (hlw P D f a b 2147483647) k with
      | none => some k
      | some j => if hlw P D f a b 2147483647 k ≤ hlw P D f a b 2147483647 j then some j else some k := rfl
    have hrc := c_hp_lp hb hF hT x d n J K w (k + 1) (by omega) (sm_uI I2 47 k 0) (.int (hlw P D f a b 2147483647 k)) rfl (fun x c hx => by rw [uI_q _ _ (by omega), w2 _ _ (by omega), f1 _ _ hx]) hK
    rw [hs] at hrc
    cases hr : rch (hlw P D f a b 2147483647) k with
    | none =>
      rw [hr] at hrc
      dsimp only [ri, rm] at hrc ⊢
      simp only [z100_1, z100_2, z100_5, z100_8, z100_10, z100_11, z100_13, z100_14, z100_16, z100_17, z100_18, z100_22, z100_23, z100_26, z100_29, z100_32, z100_33, z100_36, z100_37, z100_40, z100_43, z100_44, z100_47, z100_50, z100_52, z100_53, z100_54, z100_55, z100_58, z100_59, z100_62, z100_65, z100_67, z100_68, z100_70, z100_73, z100_75, z100_76, z100_79, z100_81, z100_82, z100_84, z100_85, z100_88, z100_91, z100_92, z100_95, z100_96, z100_99, z100_100, sm_cti, sm_ctr, sm_ctn, sm_nbi, Option.toList_some, Option.toList_none, List.cons_append, List.nil_append, ne_eq, reduceCtorEq, not_false_eq_true, Nat.reduceLeDiff, kc26, kc44, kc47, rc34, rf26_2, rf26_4, rf44_2, lw, hx, hm2, nI_1, y_inN (show k < 12 by omega) (by decide), nI_clamp (show k < 2 ^ 31 by omega), if_true, if_false, not_true_eq_false, not_false_eq_true, and_true, true_and, and_false, false_and, and_self, or_true, true_or, or_false, false_or, reduceIte, iff_self, Int32.add_zero, y_10, Classical.not_not]
      exact hrc
    | some j =>
      have hj := rch_lt hr
      have hj2 : ¬ nI j = -2 := fun z => by
        have := nI_pos' (show j < 2 ^ 31 by omega)
        rw [z] at this
        exact absurd this (by decide)
      rw [hr] at hrc
      dsimp only [ri, rm] at hrc ⊢
      by_cases hw : hlw P D f a b 2147483647 k ≤ hlw P D f a b 2147483647 j
      · rw [if_pos hw] at hrc
        dsimp only at hrc
        simp only [z100_1, z100_2, z100_5, z100_8, z100_10, z100_11, z100_13, z100_14, z100_16, z100_17, z100_18, z100_22, z100_23, z100_26, z100_29, z100_32, z100_33, z100_36, z100_37, z100_40, z100_43, z100_44, z100_47, z100_50, z100_52, z100_53, z100_54, z100_55, z100_58, z100_59, z100_62, z100_65, z100_67, z100_68, z100_70, z100_73, z100_75, z100_76, z100_79, z100_81, z100_82, z100_84, z100_85, z100_88, z100_91, z100_92, z100_95, z100_96, z100_99, z100_100, sm_cti, sm_ctr, sm_ctn, sm_nbi, Option.toList_some, Option.toList_none, List.cons_append, List.nil_append, ne_eq, reduceCtorEq, not_false_eq_true, Nat.reduceLeDiff, kc26, kc44, kc47, rc34, rf26_2, rf26_4, rf44_2, lw, hx, hj2, hw, nI_1, y_inN (show k < 12 by omega) (by decide), nI_clamp (show k < 2 ^ 31 by omega), if_true, if_false, not_true_eq_false, not_false_eq_true, and_true, true_and, and_false, false_and, and_self, or_true, true_or, or_false, false_or, reduceIte, iff_self, Int32.add_zero, y_10, Classical.not_not]
        exact hrc
      · rw [if_neg hw] at hrc
        dsimp only at hrc
        simp only [z100_1, z100_2, z100_5, z100_8, z100_10, z100_11, z100_13, z100_14, z100_16, z100_17, z100_18, z100_22, z100_23, z100_26, z100_29, z100_32, z100_33, z100_36, z100_37, z100_40, z100_43, z100_44, z100_47, z100_50, z100_52, z100_53, z100_54, z100_55, z100_58, z100_59, z100_62, z100_65, z100_67, z100_68, z100_70, z100_73, z100_75, z100_76, z100_79, z100_81, z100_82, z100_84, z100_85, z100_88, z100_91, z100_92, z100_95, z100_96, z100_99, z100_100, sm_cti, sm_ctr, sm_ctn, sm_nbi, Option.toList_some, Option.toList_none, List.cons_append, List.nil_append, ne_eq, reduceCtorEq, not_false_eq_true, Nat.reduceLeDiff, kc26, kc44, kc47, rc34, rf26_2, rf26_4, rf44_2, lw, hx, hj2, hw, nI_1, y_inN (show k < 12 by omega) (by decide), nI_clamp (show k < 2 ^ 31 by omega), if_true, if_false, not_true_eq_false, not_false_eq_true, and_true, true_and, and_false, false_and, and_self, or_true, true_or, or_false, false_or, reduceIte, iff_self, Int32.add_zero, y_10, Classical.not_not]
        exact hrc
theorem m_le_lp {I : sm_I} (hb : bdf P D f a b) (hM : mFo P D f a b I) (x1 x2 x3 x4 x5 : Int32) (d n : Nat) (J : sm_J) (K : Option Value → sm_H → Prop) : ∀ (w k : Nat), k + w = P →
    (sm_Ok (d + 1) 200 62 [.ref 103, .int x1, .int x2, .int x3, .int x4, .int x5, .int (lwc (wth a b f D) 1000000 k), .int (nI k)] [] (sm_SH n, I, J) K ↔ sm_Ok (d + 1) 200 101 [.ref 103, .int x1, .int x2, .int x3, .int x4, .int x5, .int (lwc (wth a b f D) 1000000 P), .int (nI P)] [] (sm_SH n, I, J) K)
  | 0, k, h => by
    have hk : k = P := by omega
    subst hk
    rw [z200_62]
    simp only [z200_64, z200_65, z200_68, sm_cti, sm_ctr, sm_ctn, sm_nbi, Option.toList_some, Option.toList_none, List.cons_append, List.nil_append, ne_eq, reduceCtorEq, not_false_eq_true, Nat.reduceLeDiff, kc103, hM.1, Int32.le_refl, if_true, if_false, not_true_eq_false, not_false_eq_true, and_true, true_and, and_false, false_and, and_self, or_true, true_or, or_false, false_or, reduceIte, iff_self, Int32.add_zero, y_10, Classical.not_not]
  | w + 1, k, h => by
    have hP := hb.1
    have e0 : ¬ nI P ≤ nI k := nI_ge (show k < P by omega) (by omega)
    have ak : (24 : Int32) + nI k = nI (24 + k) := nI_add 24 k
    have ek := hM.2.2.1 (24 + k) (by omega)
    have hw : nI (f (24 + k)) + clm a b f k D = wth a b f D k := rfl
    rw [← m_le_lp hb hM x1 x2 x3 x4 x5 d n J K w (k + 1) (by omega), z200_62, lwc_s]
    simp only [z200_64, z200_65, z200_68, z200_71, z200_73, z200_74, z200_77, z200_79, z200_81, z200_82, z200_83, z200_84, z200_86, z200_89, z200_90, z200_93, z200_95, z200_98, sm_cti, sm_ctr, sm_ctn, sm_nbi, Option.toList_some, Option.toList_none, List.cons_append, List.nil_append, ne_eq, reduceCtorEq, not_false_eq_true, Nat.reduceLeDiff, kc103, kc104, rc103, rf103_0, hM.1, e0, ak, ek, m_aboveOf hb hM (show k < 8 by omega), hw, m_least, y_mn (lwc (wth a b f D) 1000000 k), nI_1, y_inN (show 24 + k < 54 by omega) (by decide), nI_clamp (show 24 + k < 2 ^ 31 by omega), if_true, if_false, not_true_eq_false, not_false_eq_true, and_true, true_and, and_false, false_and, and_self, or_true, true_or, or_false, false_or, reduceIte, iff_self, Int32.add_zero, y_10, Classical.not_not]
theorem m_hp_lp {I : sm_I} (hb : bdf P D f a b) (hM : mFo P D f a b I) (x : Int32) (d n : Nat) (J : sm_J) (K : Option Value → sm_H → Prop) : ∀ (w k : Nat), k + w = D → ∀ (x5 x6 x7 : Value), x5.category = 1 → x6.category = 1 → x7.category = 1 →
    K (some (.int (if x = 0 then ri (rch (hlw P D f a b 1000000) D) else rm (-2) (hlw P D f a b 1000000) (rch (hlw P D f a b 1000000) D)))) (sm_SH n, I, J) →
    sm_Ok (d + 1) 200 22 [.ref 103, .int x, .int (ri (rch (hlw P D f a b 1000000) k)), .int (rm (-2) (hlw P D f a b 1000000) (rch (hlw P D f a b 1000000) k)), .int (nI k), x5, x6, x7] [] (sm_SH n, I, J) K
  | 0, k, h, x5, x6, x7, c5, c6, c7, hK => by
    have hk : k = D := by omega
    subst hk
    rw [z200_22]
    by_cases h0 : x = 0
    · rw [if_pos h0] at hK
      simp only [z200_24, z200_25, z200_28, z200_135, z200_136, z200_139, z200_140, z200_143, z200_144, sm_cti, sm_ctr, sm_ctn, sm_nbi, Option.toList_some, Option.toList_none, List.cons_append, List.nil_append, ne_eq, reduceCtorEq, not_false_eq_true, Nat.reduceLeDiff, kc103, hM.2.1, h0, Int32.le_refl, if_true, if_false, not_true_eq_false, not_false_eq_true, and_true, true_and, and_false, false_and, and_self, or_true, true_or, or_false, false_or, reduceIte, iff_self, Int32.add_zero, y_10, Classical.not_not]
      exact hK
    · rw [if_neg h0] at hK
      simp only [z200_24, z200_25, z200_28, z200_135, z200_136, z200_139, z200_140, z200_143, z200_144, sm_cti, sm_ctr, sm_ctn, sm_nbi, Option.toList_some, Option.toList_none, List.cons_append, List.nil_append, ne_eq, reduceCtorEq, not_false_eq_true, Nat.reduceLeDiff, kc103, hM.2.1, h0, Int32.le_refl, if_true, if_false, not_true_eq_false, not_false_eq_true, and_true, true_and, and_false, false_and, and_self, or_true, true_or, or_false, false_or, reduceIte, iff_self, Int32.add_zero, y_10, Classical.not_not]
      exact hK
  | w + 1, k, h, x5, x6, x7, c5, c6, c7, hK => by
    have hk : k < D := by omega
    have hD := hb.2.1
    have hP := hb.1
    have e0 : ¬ nI D ≤ nI k := nI_ge hk (by omega)
    have hm2 : ((-2 : Int32) < 0) = True := by decide
    have a40 : (40 : Int32) + nI k = nI (40 + k) := nI_add 40 k
    have e3 := hM.2.2.1 (40 + k) (by omega)
    have n0 : (0 : Int32) = nI 0 := rfl
    have hb2 : bdf P D (fv f (40 + k) 0) a b := fv_bd hb (Nat.zero_le _)
    have hM2 : mFo P D (fv f (40 + k) 0) a b (sm_uI I 104 (40 + k) (nI 0)) := by
      refine ⟨by rw [uI_q _ _ (by omega), hM.1], by rw [uI_q _ _ (by omega), hM.2.1], fun j hj => ?_, fun e he => by rw [uI_q _ _ (by omega), uI_q _ _ (by omega)]; exact hM.2.2.2 e he⟩
      by_cases hjk : j = 40 + k
      · subst hjk
        rw [uI_s, fv_s]
      · rw [uI_o _ _ (by omega), hM.2.2.1 j hj, fv_o _ hjk]
    have hs : rch (hlw P D f a b 1000000) (k + 1) = match rch (hlw P D f a b 1000000) k with
      | none => some k
      | some j => if hlw P D f a b 1000000 k ≤ hlw P D f a b 1000000 j then some j else some k := rfl
    rw [z200_22]
    simp only [z200_24, z200_25, z200_28, z200_31, z200_32, z200_35, z200_37, z200_39, z200_40, z200_41, z200_43, z200_44, z200_47, z200_49, z200_51, z200_52, z200_53, z200_54, z200_57, z200_59, z200_60, sm_cti, sm_ctr, sm_ctn, sm_nbi, Option.toList_some, Option.toList_none, List.cons_append, List.nil_append, ne_eq, reduceCtorEq, not_false_eq_true, Nat.reduceLeDiff, kc103, kc104, rf103_0, hM.2.1, e0, a40, e3, c5, c6, c7, y_inN (show 40 + k < 54 by omega) (by decide), nI_clamp (show 40 + k < 2 ^ 31 by omega), if_true, if_false, not_true_eq_false, not_false_eq_true, and_true, true_and, and_false, false_and, and_self, or_true, true_or, or_false, false_or, reduceIte, iff_self, Int32.add_zero, y_10, Classical.not_not]
    rw [n0]
    refine (m_le_lp hb2 hM2 _ _ _ _ _ d n J K P 0 (by omega)).mpr ?_
    have bk : sm_uI (sm_uI I 104 (40 + k) (nI 0)) 104 (40 + k) (nI (f (40 + k))) = I := uI_back I 104 (40 + k) _ _ e3.symm
    have hl : lwc (wth a b (fv f (40 + k) 0) D) 1000000 P = hlw P D f a b 1000000 k := rfl
    rw [hl]
    have hrc := m_hp_lp hb hM x d n J K w (k + 1) (by omega) (.int (nI (f (40 + k)))) (.int (hlw P D f a b 1000000 k)) (.int (nI P)) rfl rfl rfl hK
    rw [hs] at hrc
    cases hr : rch (hlw P D f a b 1000000) k with
    | none =>
      rw [hr] at hrc
      dsimp only [ri, rm] at hrc ⊢
      simp only [z200_101, z200_102, z200_105, z200_107, z200_109, z200_110, z200_112, z200_113, z200_114, z200_117, z200_119, z200_120, z200_123, z200_125, z200_126, z200_128, z200_129, z200_132, sm_cti, sm_ctr, sm_ctn, sm_nbi, Option.toList_some, Option.toList_none, List.cons_append, List.nil_append, ne_eq, reduceCtorEq, not_false_eq_true, Nat.reduceLeDiff, kc103, kc104, rf103_0, a40, bk, hm2, nI_1, y_inN (show 40 + k < 54 by omega) (by decide), nI_clamp (show 40 + k < 2 ^ 31 by omega), if_true, if_false, not_true_eq_false, not_false_eq_true, and_true, true_and, and_false, false_and, and_self, or_true, true_or, or_false, false_or, reduceIte, iff_self, Int32.add_zero, y_10, Classical.not_not]
      exact hrc
    | some j =>
      have hj := rch_lt hr
      have hj2 : ¬ nI j < 0 := nI_pos (by omega)
      rw [hr] at hrc
      dsimp only [ri, rm] at hrc ⊢
      by_cases hw : hlw P D f a b 1000000 k ≤ hlw P D f a b 1000000 j
      · rw [if_pos hw] at hrc
        dsimp only at hrc
        simp only [z200_101, z200_102, z200_105, z200_107, z200_109, z200_110, z200_112, z200_113, z200_114, z200_117, z200_119, z200_120, z200_123, z200_125, z200_126, z200_128, z200_129, z200_132, sm_cti, sm_ctr, sm_ctn, sm_nbi, Option.toList_some, Option.toList_none, List.cons_append, List.nil_append, ne_eq, reduceCtorEq, not_false_eq_true, Nat.reduceLeDiff, kc103, kc104, rf103_0, a40, bk, hj2, hw, nI_1, y_inN (show 40 + k < 54 by omega) (by decide), nI_clamp (show 40 + k < 2 ^ 31 by omega), if_true, if_false, not_true_eq_false, not_false_eq_true, and_true, true_and, and_false, false_and, and_self, or_true, true_or, or_false, false_or, reduceIte, iff_self, Int32.add_zero, y_10, Classical.not_not]
        exact hrc
      · rw [if_neg hw] at hrc
        dsimp only at hrc
        simp only [z200_101, z200_102, z200_105, z200_107, z200_109, z200_110, z200_112, z200_113, z200_114, z200_117, z200_119, z200_120, z200_123, z200_125, z200_126, z200_128, z200_129, z200_132, sm_cti, sm_ctr, sm_ctn, sm_nbi, Option.toList_some, Option.toList_none, List.cons_append, List.nil_append, ne_eq, reduceCtorEq, not_false_eq_true, Nat.reduceLeDiff, kc103, kc104, rf103_0, a40, bk, hj2, hw, nI_1, y_inN (show 40 + k < 54 by omega) (by decide), nI_clamp (show 40 + k < 2 ^ 31 by omega), if_true, if_false, not_true_eq_false, not_false_eq_true, and_true, true_and, and_false, false_and, and_self, or_true, true_or, or_false, false_or, reduceIte, iff_self, Int32.add_zero, y_10, Classical.not_not]
        exact hrc
theorem rch_congr {W V : Nat → Int32} : ∀ k, (∀ j, j < k → W j = V j) → rch W k = rch V k
  | 0, _ => rfl
  | k + 1, h => by
    have e := rch_congr k (fun j hj => h j (by omega))
    unfold rch
    rw [e]
    cases hr : rch V k with
    | none => rfl
    | some i =>
      dsimp only
      rw [h k (by omega), h i (by have := rch_lt hr; omega)]
theorem rm_congr {W V : Nat → Int32} {k : Nat} (z : Int32) (h : ∀ j, j < k → W j = V j) : rm z W (rch V k) = rm z V (rch V k) := by
  cases hr : rch V k with
  | none => rfl
  | some i =>
    dsimp only [rm]
    exact h i (rch_lt hr)
theorem hlw_eq (hb : bdf P D f a b) : ∀ e, e < D → hlw P D f a b 2147483647 e = hlw P D f a b 1000000 e := fun e he => by
  have h1 := (hb.2.2.2 e he).1
  have hD := hb.2.1
  have hP := hb.1
  unfold hlw
  have hg : ∀ k, k < 54 → fv f (40 + e) 0 k ≤ top k := (fv_bd hb (q := 40 + e) (v := 0) (Nat.zero_le _)).2.2.1
  have hp := hg (24 + 0) (by omega)
  rw [top_p (by omega)] at hp
  obtain ⟨l1, l2⟩ := wth_lt (a := a) (b := b) (g := fv f (40 + e) 0) (o := 0) hD hp (fun j hj => by have := hg (40 + j) (by omega); rw [top_s (by omega)] at this; exact this)
  obtain ⟨k, rfl⟩ : ∃ k, P = k + 1 := ⟨P - 1, by omega⟩
  exact lwc_eq l2 l1 k
end
theorem pw_help {n : Nat} {xs : Nat → Int32} {I : sm_I} {J : sm_J} (hI : Inv xs I J) (x : Int32) : pw n I J 100 [.ref 26, .int x, .null, .null, .null, .null] 200 [.ref 103, .int x, .null, .null, .null, .null, .null, .null] (fun I2 J2 => Inv xs I2 J2) := by
  obtain ⟨P, D, B, i1, i2, i3, i4, i5, i6, i7, i8⟩ := id hI
  obtain ⟨f, a, b, hb, cF, cT, mF, hz⟩ := fo_pure i2
  have n0 : (0 : Int32) = nI 0 := rfl
  intro d K hK
  by_cases h0 : 0 ≤ x ∧ x ≤ 1
  · rw [z100_0]
    simp only [z100_1, z100_2, z100_5, z100_11, z100_13, z100_14, z100_16, z100_17, z100_18, sm_cti, sm_ctr, sm_ctn, sm_nbi, Option.toList_some, Option.toList_none, List.cons_append, List.nil_append, ne_eq, reduceCtorEq, not_false_eq_true, Nat.reduceLeDiff, y_within, y_bit, h0, if_true, if_false, not_true_eq_false, not_false_eq_true, and_true, true_and, and_false, false_and, and_self, or_true, true_or, or_false, false_or, reduceIte, iff_self, Int32.add_zero, y_10, Classical.not_not]
    refine c_hp_lp hb cF cT x (d + 197) n J K D 0 (by omega) I .null rfl (fun _ _ _ => rfl) (fun I1 w1 => ?_)
    refine hK _ I1 J (fun K2 h3 => ?_)
    rw [z200_0]
    simp only [z200_1, z200_2, z200_3, z200_4, z200_7, z200_13, z200_15, z200_16, z200_18, z200_19, z200_20, sm_cti, sm_ctr, sm_ctn, sm_nbi, Option.toList_some, Option.toList_none, List.cons_append, List.nil_append, ne_eq, reduceCtorEq, not_false_eq_true, Nat.reduceLeDiff, m_within, y_w0, y_v1, y_bit, h0, if_true, if_false, not_true_eq_false, not_false_eq_true, and_true, true_and, and_false, false_and, and_self, or_true, true_or, or_false, false_or, reduceIte, iff_self, Int32.add_zero, y_10, Classical.not_not]
    refine m_hp_lp hb (mFo_f mF (fun x c hx => w1 x c (by omega))) x (d + 199) n J K2 D 0 (by omega) .null .null .null rfl rfl rfl ?_
    rw [← rch_congr D (hlw_eq hb), rm_congr (-2) (fun j hj => (hlw_eq hb j hj).symm)]
    have fin := h3 I1 J (Inv_0 hI (ag0 (fun x c hx => w1 x c (by omega))))
    exact fin
  · rw [z100_0]
    simp only [z100_1, z100_2, z100_5, z100_8, z100_10, sm_cti, sm_ctr, sm_ctn, sm_nbi, Option.toList_some, Option.toList_none, List.cons_append, List.nil_append, ne_eq, reduceCtorEq, not_false_eq_true, Nat.reduceLeDiff, y_within, y_bit, h0, if_true, if_false, not_true_eq_false, not_false_eq_true, and_true, true_and, and_false, false_and, and_self, or_true, true_or, or_false, false_or, reduceIte, iff_self, Int32.add_zero, y_10, Classical.not_not]
    refine hK _ I J (fun K2 h3 => ?_)
    rw [z200_0]
    simp only [z200_1, z200_2, z200_3, z200_4, z200_7, z200_10, z200_12, sm_cti, sm_ctr, sm_ctn, sm_nbi, Option.toList_some, Option.toList_none, List.cons_append, List.nil_append, ne_eq, reduceCtorEq, not_false_eq_true, Nat.reduceLeDiff, m_within, y_w0, y_v1, y_bit, h0, if_true, if_false, not_true_eq_false, not_false_eq_true, and_true, true_and, and_false, false_and, and_self, or_true, true_or, or_false, false_or, reduceIte, iff_self, Int32.add_zero, y_10, Classical.not_not]
    exact h3 I J hI
