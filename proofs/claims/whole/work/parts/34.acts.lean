/-! acts -/
theorem gD_l {l m : List Int32} {j : Nat} (h : j < l.length) : (l ++ m).getD j 0 = l.getD j 0 := by
  rw [List.getD_eq_getElem?_getD, List.getD_eq_getElem?_getD, List.getElem?_append_left h]
theorem gD_r {l m : List Int32} {j : Nat} (h : l.length ≤ j) : (l ++ m).getD j 0 = m.getD (j - l.length) 0 := by
  rw [List.getD_eq_getElem?_getD, List.getD_eq_getElem?_getD, List.getElem?_append_right h]
/-- with these bodies run so far -/
def wt (q a f : Nat) (I : sm_I) (l : List Int32) : sm_I := fun x b => if x = a ∧ b = f then nI l.length else if x = q ∧ b < l.length then l.getD b 0 else I x b
theorem wt_f (q a f : Nat) (I : sm_I) (l : List Int32) : wt q a f I l a f = nI l.length := by unfold wt; rw [if_pos ⟨rfl, rfl⟩]
theorem wt_o {q a f : Nat} (I : sm_I) (l : List Int32) {x b : Nat} (h1 : ¬ (x = a ∧ b = f)) (h2 : ¬ x = q) : wt q a f I l x b = I x b := by
  unfold wt
  rw [if_neg h1, if_neg (fun z => h2 z.1)]
theorem wt_at {q a f : Nat} (I : sm_I) (l : List Int32) {b : Nat} (h1 : ¬ q = a) (h2 : b < l.length) : wt q a f I l q b = l.getD b 0 := by
  unfold wt
  rw [if_neg (fun z => h1 z.1), if_pos ⟨rfl, h2⟩]
theorem wt_nil (q a f : Nat) (I : sm_I) : sm_uI I a f 0 = wt q a f I [] := by
  funext x b
  unfold sm_uI wt
  by_cases h : x = a ∧ b = f
  · rw [if_pos h, if_pos h]
    rfl
  · rw [if_neg h, if_neg h, if_neg (fun z => absurd z.2 (Nat.not_lt_zero _))]
theorem wt_push {q a f : Nat} (I : sm_I) (l : List Int32) (v : Int32) (hq : ¬ q = a) : sm_uI (sm_uI (wt q a f I l) q l.length v) a f (nI (l.length + 1)) = wt q a f I (l ++ [v]) := by
  funext x b
  by_cases h : x = a ∧ b = f
  · obtain ⟨rfl, rfl⟩ := h
    rw [uI_s, wt_f, List.length_append]
    rfl
  · rw [uI_o _ _ h]
    by_cases hx : x = q
    · subst hx
      by_cases hb : b = l.length
      · subst hb
        rw [uI_s, wt_at _ _ hq (by rw [List.length_append]; exact Nat.lt_succ_self _), gD_r (Nat.le_refl _), Nat.sub_self]
        rfl
      · rw [uI_o _ _ (fun z => hb z.2)]
        by_cases hl : b < l.length
        · rw [wt_at _ _ hq hl, wt_at _ _ hq (by rw [List.length_append]; exact Nat.lt_succ_of_lt hl), gD_l hl]
        · unfold wt
          rw [if_neg h, if_neg h, if_neg (fun z => hl z.2), if_neg]
          intro z
          have := z.2
          rw [List.length_append] at this
          have h1 : ([v] : List Int32).length = 1 := rfl
          omega
    · rw [uI_o _ _ (fun z => hx z.1), wt_o _ _ h hx, wt_o _ _ h hx]
def sgV (k x N : Int32) : Int32 := if k = 1 ∨ k = 4 ∨ k = 7 then x + N + 3 else if k = 6 then (x + N) * 2 else x + N
def sgL (k : Int32) : List Int32 := if k = 1 ∨ k = 4 ∨ k = 7 then [20, 1] else if k = 6 then [70, 1] else [1]
def huV (k o x N : Int32) : Int32 := if k = 3 ∨ k = 5 then (x ^^^ N) * 3 else if k = 4 ∨ k = 7 then (x ^^^ N) - sgV o 2 N else x ^^^ N
def huL (k o : Int32) : List Int32 := if k = 3 ∨ k = 5 then [40, 11] else if k = 4 ∨ k = 7 then 50 :: 11 :: sgL o else [11]
def mvV (k o x N : Int32) : Int32 := if k = 3 ∨ k = 5 then -(sgV o (x + 1) N * 2) else if k = 2 then -(sgV o x N * 2) else if k = 7 then sgV o x N * 2 + huV o o 2 N else sgV o x N * 2
def mvL (k o : Int32) : List Int32 := if k = 3 ∨ k = 5 then 41 :: 30 :: 10 :: sgL o else if k = 2 then 30 :: 10 :: sgL o else if k = 7 then 80 :: 10 :: (sgL o ++ huL o o) else 10 :: sgL o
def teV (k o x N : Int32) : Int32 := if k = 5 then (mvV o o x N - huV o o 1 N) ^^^ 5 else if k = 7 then mvV o o x N - huV o o 1 N - 1 else mvV o o x N - huV o o 1 N
def teL (k o : Int32) : List Int32 := if k = 5 then 60 :: 2 :: (mvL o o ++ huL o o) else if k = 7 then 81 :: 2 :: (mvL o o ++ huL o o) else 2 :: (mvL o o ++ huL o o)
theorem sgL_len (k : Int32) : (sgL k).length ≤ 2 := by
  unfold sgL
  (repeat' split) <;> decide
theorem huL_len (k o : Int32) : (huL k o).length ≤ 4 := by
  have := sgL_len o
  unfold huL
  (repeat' split) <;> simp only [List.length_cons, List.length_nil] <;> omega
theorem mvL_len (k o : Int32) : (mvL k o).length ≤ 8 := by
  have := sgL_len o
  have := huL_len o o
  unfold mvL
  (repeat' split) <;> simp only [List.length_cons, List.length_append] <;> omega
theorem teL_len (k o : Int32) : (teL k o).length ≤ 14 := by
  have := mvL_len o o
  have := huL_len o o
  unfold teL
  (repeat' split) <;> simp only [List.length_cons, List.length_append] <;> omega
theorem m_runs (d n : Nat) (I : sm_I) (J : sm_J) (K : Option Value → sm_H → Prop) (l : List Int32) (hl : l.length < 24) (b : Int32) : sm_Ok d 223 0 [.ref 103, .int b] [] (sm_SH n, wt 125 103 41 I l, J) K ↔ K none (sm_SH n, wt 125 103 41 I (l ++ [b]), J) := by
  have h24 : ¬ (24 : Int32) ≤ nI l.length := nI_ge (a := l.length) (b := 24) hl (by decide)
  have e1 : sm_uI (wt 125 103 41 I l) 125 l.length b 103 41 = nI l.length := by rw [uI_q _ _ (by decide), wt_f]
  simp only [z223_0, z223_1, z223_4, z223_6, z223_9, z223_10, z223_13, z223_14, z223_17, z223_18, z223_19, z223_20, z223_21, z223_24, z223_25, z223_26, z223_29, sm_cti, sm_ctr, sm_ctn, sm_nbi, Option.toList_some, Option.toList_none, List.cons_append, List.nil_append, ne_eq, reduceCtorEq, not_false_eq_true, Nat.reduceLeDiff, kc103, kc125, rf103_40, wt_f, h24, y_inN hl (by decide), nI_clamp (show l.length < 2 ^ 31 by omega), e1, nI_1, wt_push I l b (show ¬ 125 = 103 by decide), if_true, if_false, not_true_eq_false, not_false_eq_true, and_true, true_and, and_false, false_and, and_self, or_true, true_or, or_false, false_or, reduceIte, iff_self, Int32.add_zero, y_10, Classical.not_not]
theorem m_own {q : Nat} (I : sm_I) (l : List Int32) (hq : q = 42 ∨ q = 43) : wt 125 103 41 I l 103 q = I 103 q := wt_o _ _ (by omega) (by omega)
theorem m_sg0 (d n : Nat) (I : sm_I) (J : sm_J) (K : Option Value → sm_H → Prop) {N : Int32} (hN : I 103 43 = N) (l : List Int32) (hl : l.length < 24) (k x : Int32) (hk : ¬ k = 1 ∧ ¬ k = 4 ∧ ¬ k = 7 ∧ ¬ k = 6) : sm_Ok (d + 1) 224 0 [.ref 103, .int k, .int x] [] (sm_SH n, wt 125 103 41 I l, J) K ↔ K (some (.int (x + N))) (sm_SH n, wt 125 103 41 I (l ++ [1]), J) := by
  simp only [z224_0, z224_1, z224_2, z224_5, z224_6, z224_7, z224_10, z224_11, z224_13, z224_16, z224_17, z224_19, z224_22, z224_23, z224_24, z224_25, z224_28, z224_29, z224_30, z224_31, z224_32, z224_34, z224_37, z224_38, z224_40, z224_43, z224_44, z224_45, z224_46, z224_49, z224_50, z224_51, z224_52, z224_53, z224_54, z224_57, z224_58, z224_59, z224_62, z224_63, sm_cti, sm_ctr, sm_ctn, sm_nbi, Option.toList_some, Option.toList_none, List.cons_append, List.nil_append, ne_eq, reduceCtorEq, not_false_eq_true, Nat.reduceLeDiff, kc103, rc103, m_runs _ _ _ _ _ l hl, m_own I _ (Or.inr rfl), hN, hk, if_true, if_false, not_true_eq_false, not_false_eq_true, and_true, true_and, and_false, false_and, and_self, or_true, true_or, or_false, false_or, reduceIte, iff_self, Int32.add_zero, y_10, Classical.not_not]
theorem m_sg (d n : Nat) (I : sm_I) (J : sm_J) (K : Option Value → sm_H → Prop) {N : Int32} (hN : I 103 43 = N) (l : List Int32) (hl : l.length < 23) (k x : Int32) : sm_Ok (d + 2) 224 0 [.ref 103, .int k, .int x] [] (sm_SH n, wt 125 103 41 I l, J) K ↔ K (some (.int (sgV k x N))) (sm_SH n, wt 125 103 41 I (l ++ sgL k), J) := by
  have h20 : ((l ++ [20]) : List Int32).length < 24 := by rw [List.length_append]; exact Nat.succ_lt_succ hl
  have h70 : ((l ++ [70]) : List Int32).length < 24 := by rw [List.length_append]; exact Nat.succ_lt_succ hl
  have hz : ¬ (0 : Int32) = 1 ∧ ¬ (0 : Int32) = 4 ∧ ¬ (0 : Int32) = 7 ∧ ¬ (0 : Int32) = 6 := by decide
  simp only [z224_0, z224_1, z224_2, z224_5, z224_6, z224_7, z224_10, z224_11, z224_13, z224_16, z224_17, z224_19, z224_22, z224_23, z224_24, z224_25, z224_28, z224_29, z224_30, z224_31, z224_32, z224_34, z224_37, z224_38, z224_40, z224_43, z224_44, z224_45, z224_46, z224_49, z224_50, z224_51, z224_52, z224_53, z224_54, z224_57, z224_58, z224_59, z224_62, z224_63, sm_cti, sm_ctr, sm_ctn, sm_nbi, Option.toList_some, Option.toList_none, List.cons_append, List.nil_append, ne_eq, reduceCtorEq, not_false_eq_true, Nat.reduceLeDiff, kc103, rc103, m_runs _ _ _ _ _ l (Nat.lt_succ_of_lt hl), m_own I _ (Or.inr rfl), hN, m_sg0 _ _ _ _ _ hN (l ++ [20]) h20 0 _ hz, m_sg0 _ _ _ _ _ hN (l ++ [70]) h70 0 _ hz, sgV, sgL, List.append_assoc, List.cons_append, List.nil_append]
  (repeat' split) <;> simp_all
theorem m_hu0 (d n : Nat) (I : sm_I) (J : sm_J) (K : Option Value → sm_H → Prop) {N : Int32} (hN : I 103 43 = N) (l : List Int32) (hl : l.length < 24) (k x : Int32) (hk : ¬ k = 3 ∧ ¬ k = 5 ∧ ¬ k = 4 ∧ ¬ k = 7) : sm_Ok (d + 1) 226 0 [.ref 103, .int k, .int x, .null] [] (sm_SH n, wt 125 103 41 I l, J) K ↔ K (some (.int (x ^^^ N))) (sm_SH n, wt 125 103 41 I (l ++ [11]), J) := by
  simp only [z226_0, z226_1, z226_2, z226_5, z226_6, z226_7, z226_10, z226_11, z226_13, z226_16, z226_17, z226_18, z226_19, z226_22, z226_23, z226_24, z226_25, z226_26, z226_27, z226_30, z226_31, z226_33, z226_36, z226_37, z226_39, z226_42, z226_43, z226_44, z226_45, z226_48, z226_49, z226_50, z226_51, z226_52, z226_55, z226_56, z226_59, z226_60, z226_61, z226_62, z226_64, z226_67, z226_68, z226_69, z226_72, z226_73, sm_cti, sm_ctr, sm_ctn, sm_nbi, Option.toList_some, Option.toList_none, List.cons_append, List.nil_append, ne_eq, reduceCtorEq, not_false_eq_true, Nat.reduceLeDiff, kc103, rc103, m_runs _ _ _ _ _ l hl, m_own I _ (Or.inr rfl), hN, hk, if_true, if_false, not_true_eq_false, not_false_eq_true, and_true, true_and, and_false, false_and, and_self, or_true, true_or, or_false, false_or, reduceIte, iff_self, Int32.add_zero, y_10, Classical.not_not]
theorem m_hu (d n : Nat) (I : sm_I) (J : sm_J) (K : Option Value → sm_H → Prop) {N o : Int32} (hN : I 103 43 = N) (ho : I 103 42 = o) (l : List Int32) (hl : l.length < 20) (k x : Int32) : sm_Ok (d + 3) 226 0 [.ref 103, .int k, .int x, .null] [] (sm_SH n, wt 125 103 41 I l, J) K ↔ K (some (.int (huV k o x N))) (sm_SH n, wt 125 103 41 I (l ++ huL k o), J) := by
  have h1 : ((l ++ [40]) : List Int32).length < 24 := by rw [List.length_append]; show l.length + 1 < 24; omega
  have h2 : ((l ++ [50]) : List Int32).length < 24 := by rw [List.length_append]; show l.length + 1 < 24; omega
  have h3 : ((l ++ [50] ++ [11]) : List Int32).length < 23 := by rw [List.length_append, List.length_append]; show l.length + 1 + 1 < 23; omega
  have hz1 : ¬ (1 : Int32) = 3 ∧ ¬ (1 : Int32) = 5 ∧ ¬ (1 : Int32) = 4 ∧ ¬ (1 : Int32) = 7 := by decide
  have hz2 : ¬ (2 : Int32) = 3 ∧ ¬ (2 : Int32) = 5 ∧ ¬ (2 : Int32) = 4 ∧ ¬ (2 : Int32) = 7 := by decide
  simp only [z226_0, z226_1, z226_2, z226_5, z226_6, z226_7, z226_10, z226_11, z226_13, z226_16, z226_17, z226_18, z226_19, z226_22, z226_23, z226_24, z226_25, z226_26, z226_27, z226_30, z226_31, z226_33, z226_36, z226_37, z226_39, z226_42, z226_43, z226_44, z226_45, z226_48, z226_49, z226_50, z226_51, z226_52, z226_55, z226_56, z226_59, z226_60, z226_61, z226_62, z226_64, z226_67, z226_68, z226_69, z226_72, z226_73, sm_cti, sm_ctr, sm_ctn, sm_nbi, Option.toList_some, Option.toList_none, List.cons_append, List.nil_append, ne_eq, reduceCtorEq, not_false_eq_true, Nat.reduceLeDiff, kc103, rc103, m_runs _ _ _ _ _ l (show l.length < 24 by omega), m_own I _ (Or.inr rfl), m_own I _ (Or.inl rfl), hN, ho, m_hu0 _ _ _ _ _ hN (l ++ [40]) h1 2 _ hz2, m_hu0 _ _ _ _ _ hN (l ++ [50]) h2 1 _ hz1, m_sg _ _ _ _ _ hN (l ++ [50] ++ [11]) h3, huV, huL]
  simp only [List.append_assoc, List.cons_append, List.nil_append]
  (repeat' split) <;> simp_all
theorem m_mv0 (d n : Nat) (I : sm_I) (J : sm_J) (K : Option Value → sm_H → Prop) {N o : Int32} (hN : I 103 43 = N) (ho : I 103 42 = o) (l : List Int32) (hl : l.length < 20) (k x : Int32) (hk : ¬ k = 3 ∧ ¬ k = 5 ∧ ¬ k = 2 ∧ ¬ k = 7) : sm_Ok (d + 3) 225 0 [.ref 103, .int k, .int x, .null] [] (sm_SH n, wt 125 103 41 I l, J) K ↔ K (some (.int (sgV o x N * 2))) (sm_SH n, wt 125 103 41 I (l ++ 10 :: sgL o), J) := by
  have h1 : ((l ++ [10]) : List Int32).length < 23 := by rw [List.length_append]; show l.length + 1 < 23; omega
  simp only [z225_0, z225_1, z225_2, z225_5, z225_6, z225_7, z225_10, z225_11, z225_13, z225_16, z225_17, z225_18, z225_19, z225_20, z225_21, z225_24, z225_25, z225_26, z225_27, z225_30, z225_31, z225_33, z225_36, z225_37, z225_38, z225_39, z225_42, z225_43, z225_44, z225_45, z225_47, z225_50, z225_51, z225_53, z225_56, z225_57, z225_58, z225_59, z225_62, z225_63, z225_64, z225_65, z225_66, z225_69, z225_70, z225_73, z225_74, z225_75, z225_76, z225_78, z225_81, z225_82, z225_83, z225_86, z225_87, z225_90, z225_91, z225_92, sm_cti, sm_ctr, sm_ctn, sm_nbi, Option.toList_some, Option.toList_none, List.cons_append, List.nil_append, ne_eq, reduceCtorEq, not_false_eq_true, Nat.reduceLeDiff, kc103, rc103, m_runs _ _ _ _ _ l (show l.length < 24 by omega), m_own I _ (Or.inl rfl), ho, m_sg _ _ _ _ _ hN (l ++ [10]) h1, hk, if_true, if_false, not_true_eq_false, not_false_eq_true, and_true, true_and, and_false, false_and, and_self, or_true, true_or, or_false, false_or, reduceIte, iff_self, Int32.add_zero, y_10, Classical.not_not, List.append_assoc, List.cons_append, List.nil_append]
theorem m_mv2 (d n : Nat) (I : sm_I) (J : sm_J) (K : Option Value → sm_H → Prop) {N o : Int32} (hN : I 103 43 = N) (ho : I 103 42 = o) (l : List Int32) (hl : l.length < 19) (x : Int32) : sm_Ok (d + 4) 225 0 [.ref 103, .int 2, .int x, .null] [] (sm_SH n, wt 125 103 41 I l, J) K ↔ K (some (.int (-(sgV o x N * 2)))) (sm_SH n, wt 125 103 41 I (l ++ 30 :: 10 :: sgL o), J) := by
  have h1 : ((l ++ [30]) : List Int32).length < 20 := by rw [List.length_append]; show l.length + 1 < 20; omega
  have hz : ¬ (0 : Int32) = 3 ∧ ¬ (0 : Int32) = 5 ∧ ¬ (0 : Int32) = 2 ∧ ¬ (0 : Int32) = 7 := by decide
  have hz2 : ¬ (2 : Int32) = 3 ∧ ¬ (2 : Int32) = 5 := by decide
  simp only [z225_0, z225_1, z225_2, z225_5, z225_6, z225_7, z225_10, z225_11, z225_13, z225_16, z225_17, z225_18, z225_19, z225_20, z225_21, z225_24, z225_25, z225_26, z225_27, z225_30, z225_31, z225_33, z225_36, z225_37, z225_38, z225_39, z225_42, z225_43, z225_44, z225_45, z225_47, z225_50, z225_51, z225_53, z225_56, z225_57, z225_58, z225_59, z225_62, z225_63, z225_64, z225_65, z225_66, z225_69, z225_70, z225_73, z225_74, z225_75, z225_76, z225_78, z225_81, z225_82, z225_83, z225_86, z225_87, z225_90, z225_91, z225_92, sm_cti, sm_ctr, sm_ctn, sm_nbi, Option.toList_some, Option.toList_none, List.cons_append, List.nil_append, ne_eq, reduceCtorEq, not_false_eq_true, Nat.reduceLeDiff, kc103, rc103, m_runs _ _ _ _ _ l (show l.length < 24 by omega), m_mv0 _ _ _ _ _ hN ho (l ++ [30]) h1 0 _ hz, hz2, if_true, if_false, not_true_eq_false, not_false_eq_true, and_true, true_and, and_false, false_and, and_self, or_true, true_or, or_false, false_or, reduceIte, iff_self, Int32.add_zero, y_10, Classical.not_not]
  simp only [List.append_assoc, List.cons_append, List.nil_append]
theorem m_mv (d n : Nat) (I : sm_I) (J : sm_J) (K : Option Value → sm_H → Prop) {N o : Int32} (hN : I 103 43 = N) (ho : I 103 42 = o) (l : List Int32) (hl : l.length < 15) (k x : Int32) : sm_Ok (d + 5) 225 0 [.ref 103, .int k, .int x, .null] [] (sm_SH n, wt 125 103 41 I l, J) K ↔ K (some (.int (mvV k o x N))) (sm_SH n, wt 125 103 41 I (l ++ mvL k o), J) := by
  have h1 : ((l ++ [41]) : List Int32).length < 19 := by rw [List.length_append]; show l.length + 1 < 19; omega
  have h2 : ((l ++ [30]) : List Int32).length < 20 := by rw [List.length_append]; show l.length + 1 < 20; omega
  have h3 : ((l ++ [80]) : List Int32).length < 20 := by rw [List.length_append]; show l.length + 1 < 20; omega
  have h5 : ((l ++ [10]) : List Int32).length < 23 := by rw [List.length_append]; show l.length + 1 < 23; omega
  have h4 : ((l ++ [80] ++ 10 :: sgL o) : List Int32).length < 20 := by
    have := sgL_len o
    simp only [List.length_append, List.length_cons, List.length_nil]
    omega
  have hz : ¬ (0 : Int32) = 3 ∧ ¬ (0 : Int32) = 5 ∧ ¬ (0 : Int32) = 2 ∧ ¬ (0 : Int32) = 7 := by decide
  have hz4 : ¬ (4 : Int32) = 3 ∧ ¬ (4 : Int32) = 5 ∧ ¬ (4 : Int32) = 2 ∧ ¬ (4 : Int32) = 7 := by decide
  simp only [z225_0, z225_1, z225_2, z225_5, z225_6, z225_7, z225_10, z225_11, z225_13, z225_16, z225_17, z225_18, z225_19, z225_20, z225_21, z225_24, z225_25, z225_26, z225_27, z225_30, z225_31, z225_33, z225_36, z225_37, z225_38, z225_39, z225_42, z225_43, z225_44, z225_45, z225_47, z225_50, z225_51, z225_53, z225_56, z225_57, z225_58, z225_59, z225_62, z225_63, z225_64, z225_65, z225_66, z225_69, z225_70, z225_73, z225_74, z225_75, z225_76, z225_78, z225_81, z225_82, z225_83, z225_86, z225_87, z225_90, z225_91, z225_92, sm_cti, sm_ctr, sm_ctn, sm_nbi, Option.toList_some, Option.toList_none, List.cons_append, List.nil_append, ne_eq, reduceCtorEq, not_false_eq_true, Nat.reduceLeDiff, kc103, rc103, m_runs _ _ _ _ _ l (show l.length < 24 by omega), m_own I _ (Or.inl rfl), ho, m_mv2 _ _ _ _ _ hN ho (l ++ [41]) h1, m_mv0 _ _ _ _ _ hN ho (l ++ [30]) h2 0 _ hz, m_mv0 _ _ _ _ _ hN ho (l ++ [80]) h3 4 _ hz4, m_hu _ _ _ _ _ hN ho (l ++ [80] ++ 10 :: sgL o) h4, m_sg _ _ _ _ _ hN (l ++ [10]) h5, mvV, mvL]
  simp only [List.append_assoc, List.cons_append, List.nil_append]
  (repeat' split) <;> simp_all
theorem m_te0 (d n : Nat) (I : sm_I) (J : sm_J) (K : Option Value → sm_H → Prop) {N o : Int32} (hN : I 103 43 = N) (ho : I 103 42 = o) (l : List Int32) (hl : l.length < 5) (k x : Int32) (hk : ¬ k = 5 ∧ ¬ k = 7) : sm_Ok (d + 6) 227 0 [.ref 103, .int k, .int x, .null] [] (sm_SH n, wt 125 103 41 I l, J) K ↔ K (some (.int (mvV o o x N - huV o o 1 N))) (sm_SH n, wt 125 103 41 I (l ++ 2 :: (mvL o o ++ huL o o)), J) := by
  have h1 : ((l ++ [2]) : List Int32).length < 15 := by rw [List.length_append]; show l.length + 1 < 15; omega
  have h2 : ((l ++ [2] ++ mvL o o) : List Int32).length < 20 := by
    have := mvL_len o o
    simp only [List.length_append, List.length_cons, List.length_nil]
    omega
  simp only [z227_0, z227_1, z227_2, z227_5, z227_6, z227_8, z227_11, z227_12, z227_13, z227_14, z227_17, z227_18, z227_19, z227_20, z227_21, z227_23, z227_26, z227_27, z227_29, z227_32, z227_33, z227_34, z227_35, z227_38, z227_39, z227_40, z227_41, z227_42, z227_43, z227_46, z227_47, z227_48, z227_51, z227_52, z227_55, z227_56, z227_57, z227_58, z227_59, z227_62, z227_63, z227_66, z227_67, sm_cti, sm_ctr, sm_ctn, sm_nbi, Option.toList_some, Option.toList_none, List.cons_append, List.nil_append, ne_eq, reduceCtorEq, not_false_eq_true, Nat.reduceLeDiff, kc103, rc103, m_runs _ _ _ _ _ l (show l.length < 24 by omega), m_own I _ (Or.inl rfl), ho, m_mv _ _ _ _ _ hN ho (l ++ [2]) h1, m_hu _ _ _ _ _ hN ho (l ++ [2] ++ mvL o o) h2, hk, if_true, if_false, not_true_eq_false, not_false_eq_true, and_true, true_and, and_false, false_and, and_self, or_true, true_or, or_false, false_or, reduceIte, iff_self, Int32.add_zero, y_10, Classical.not_not]
  simp only [List.append_assoc, List.cons_append, List.nil_append]
theorem m_te (d n : Nat) (I : sm_I) (J : sm_J) (K : Option Value → sm_H → Prop) {N o : Int32} (hN : I 103 43 = N) (ho : I 103 42 = o) (l : List Int32) (hl : l.length < 4) (k x : Int32) : sm_Ok (d + 7) 227 0 [.ref 103, .int k, .int x, .null] [] (sm_SH n, wt 125 103 41 I l, J) K ↔ K (some (.int (teV k o x N))) (sm_SH n, wt 125 103 41 I (l ++ teL k o), J) := by
  have h1 : ((l ++ [60]) : List Int32).length < 5 := by rw [List.length_append]; show l.length + 1 < 5; omega
  have h2 : ((l ++ [81]) : List Int32).length < 5 := by rw [List.length_append]; show l.length + 1 < 5; omega
  have hz3 : ¬ (3 : Int32) = 5 ∧ ¬ (3 : Int32) = 7 := by decide
  have hz4 : ¬ (4 : Int32) = 5 ∧ ¬ (4 : Int32) = 7 := by decide
  have h3 : ((l ++ [2]) : List Int32).length < 15 := by rw [List.length_append]; show l.length + 1 < 15; omega
  have h4 : ((l ++ [2] ++ mvL o o) : List Int32).length < 20 := by
    have := mvL_len o o
    simp only [List.length_append, List.length_cons, List.length_nil]
    omega
  simp only [z227_0, z227_1, z227_2, z227_5, z227_6, z227_8, z227_11, z227_12, z227_13, z227_14, z227_17, z227_18, z227_19, z227_20, z227_21, z227_23, z227_26, z227_27, z227_29, z227_32, z227_33, z227_34, z227_35, z227_38, z227_39, z227_40, z227_41, z227_42, z227_43, z227_46, z227_47, z227_48, z227_51, z227_52, z227_55, z227_56, z227_57, z227_58, z227_59, z227_62, z227_63, z227_66, z227_67, sm_cti, sm_ctr, sm_ctn, sm_nbi, Option.toList_some, Option.toList_none, List.cons_append, List.nil_append, ne_eq, reduceCtorEq, not_false_eq_true, Nat.reduceLeDiff, kc103, rc103, m_runs _ _ _ _ _ l (show l.length < 24 by omega), m_own I _ (Or.inl rfl), ho, m_te0 _ _ _ _ _ hN ho (l ++ [60]) h1 3 _ hz3, m_te0 _ _ _ _ _ hN ho (l ++ [81]) h2 4 _ hz4, m_mv _ _ _ _ _ hN ho (l ++ [2]) h3, m_hu _ _ _ _ _ hN ho (l ++ [2] ++ mvL o o) h4, teV, teL]
  simp only [List.append_assoc, List.cons_append, List.nil_append]
  (repeat' split) <;> simp_all
