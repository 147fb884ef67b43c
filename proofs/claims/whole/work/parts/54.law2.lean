/-! both answer alike: feed, law -/
theorem sm_ret_int : ∀ (n d mi pc : Nat) (L st : List Value) (h : sm_H) (r : Option Value) (h' : sm_H), sm_ret mi = some .int → sm_ev n d mi pc L st h = some (r, h') → ∃ v, r = some (.int v)
  | 0, _, _, _, _, _, _, _, _, _, hev => by cases hev
  | n + 1, d, mi, pc, L, st, h, r, h', hm, hev => by
    obtain ⟨i, len, a, b, z, hcd, hor⟩ := sm_ev_inv hev
    rcases hor with ⟨hrt, rfl⟩ | ⟨hrt, hic, ha, k, as, rest, d', r1, h1, hcall, rfl, hal, e1, e2⟩ | ⟨hrt, hn, pc', L', st', h1, e1, e2⟩
    · unfold sm_rt at hrt
      split at hrt
      · rw [hm] at hrt
        dsimp only at hrt
        split at hrt
        · cases hrt
          exact ⟨_, rfl⟩
        · cases hrt
      · rw [hm] at hrt
        rw [if_neg (by decide)] at hrt
        cases hrt
      · rw [hm] at hrt
        rw [if_neg (by decide)] at hrt
        cases hrt
      · rw [hm] at hrt
        rw [if_neg (by decide)] at hrt
        cases hrt
      · cases hrt
    · exact sm_ret_int n _ _ _ _ _ _ _ _ hm e2
    · exact sm_ret_int n _ _ _ _ _ _ _ _ hm e2
/-- the one comes to an end, and then the other, with the same answer; Q holds then -/
def pw (n : Nat) (I : sm_I) (J : sm_J) (cm : Nat) (ca : List Value) (mm : Nat) (ma : List Value) (Q : sm_I → sm_J → Prop) : Prop :=
  ∀ (d : Nat) (K : Option Value → sm_H → Prop), (∀ (v : Int32) (I1 : sm_I) (J1 : sm_J), (∀ K2 : Option Value → sm_H → Prop, (∀ (I2 : sm_I) (J2 : sm_J), Q I2 J2 → K2 (some (.int v)) (sm_SH n, I2, J2)) → sm_Ok (d + 200) mm 0 ma [] (sm_SH n, I1, J1) K2) → K (some (.int v)) (sm_SH n, I1, J1)) → sm_Ok (d + 200) cm 0 ca [] (sm_SH n, I, J) K
theorem pr_pw {n : Nat} {I : sm_I} {J : sm_J} {cm : Nat} {ca : List Value} {mm : Nat} {ma : List Value} {Q : sm_I → sm_J → Prop} (hr : sm_ret cm = some .int) (h : pr n I J cm ca mm ma Q) : pw n I J cm ca mm ma Q := by
  obtain ⟨r, I1, J1, I2, J2, h1, h2, hQ⟩ := h
  intro d K hK
  have hv : ∃ v, some r = some (Value.int v) := by
    obtain ⟨m, r', h', e, -⟩ := (h1 d (fun _ _ => True)).mpr trivial
    obtain ⟨v, hv⟩ := sm_ret_int m _ _ _ _ _ _ _ _ hr e
    exact (h1 d (fun r _ => ∃ v, r = some (.int v))).mp ⟨m, r', h', e, v, hv⟩
  obtain ⟨v, hv⟩ := hv
  cases hv
  rw [h1]
  exact hK v I1 J1 (fun K2 h3 => (h2 d K2).mpr (h3 I2 J2 hQ))
/-- the law of the class, and the text of the reference -/
def iv_la (I : sm_I) : Prop := (I 103 13 = -1 ∧ I 27 3 = 0) ∨ ∃ (t : Nat → Nat) (N : Nat), clw t N I ∧ I 103 13 = nI N ∧ ∀ j, j < N → I 111 j = nI (t j)
theorem iv_la_f {I I' : sm_I} (h : iv_la I) (hf : ∀ q b, rg q b = 5 → I' q b = I q b) : iv_la I' := by
  rcases h with ⟨h1, h2⟩ | ⟨t, N, ⟨h1, h2, h3, h4, h5, h6⟩, h7, h8⟩
  · exact Or.inl ⟨by rw [hf 103 13 rfl, h1], by rw [hf 27 3 rfl, h2]⟩
  · exact Or.inr ⟨t, N, ⟨h1, h2, h3, h4, by rw [hf 27 3 rfl, h5], fun j hj => by rw [hf 28 j rfl, h6 j hj]⟩, by rw [hf 103 13 rfl, h7], fun j hj => by rw [hf 111 j rfl, h8 j hj]⟩
theorem iv_ta_f {I I' : sm_I} (h : iv_ta I) (hf : ∀ q b, rg q b = 4 → I' q b = I q b) : iv_ta I' := by
  obtain ⟨n, h1, h2, h3, h4⟩ := h
  refine ⟨n, h1, by rw [hf 31 2 rfl, h2], by rw [hf 103 11 rfl, h3], fun j hj => ?_⟩
  obtain ⟨v, v1, v2, v3⟩ := h4 j hj
  exact ⟨v, v1, by rw [hf 33 j rfl, v2], by rw [hf 110 j rfl, v3]⟩
theorem ta_t {I : sm_I} (h : iv_ta I) : ∃ (t : Nat → Nat) (N : Nat), ctp t N I ∧ I 103 11 = nI N ∧ ∀ j, j < N → I 110 j = nI (t j) := by
  obtain ⟨n, h1, h2, h3, h4⟩ := h
  refine ⟨fun j => (I 33 j).toNatClampNeg, n, ⟨h1, h2, fun j hj => ?_⟩, h3, fun j hj => ?_⟩
  · obtain ⟨v, v1, v2, v3⟩ := h4 j hj
    dsimp only
    rw [v2, nI_clamp (by omega)]
    exact ⟨by omega, rfl⟩
  · obtain ⟨v, v1, v2, v3⟩ := h4 j hj
    dsimp only
    rw [v2, nI_clamp (by omega), v3]
section
variable {t : Nat → Nat} {N : Nat} {xs : Nat → Int32}
theorem m_law_lp (d n : Nat) (J : sm_J) (K : Option Value → sm_H → Prop) (x1 : Value) {I : sm_I} (hN : N ≤ 120) (hb : ∀ j, j < N → I 110 j = nI (t j)) : ∀ (w k : Nat), k + w = N → ∀ I1 : sm_I, (∀ x b, ¬ x = 111 → I1 x b = I x b) → (∀ j, j < k → I1 111 j = nI (t j)) →
    (∀ I', (∀ x b, ¬ x = 111 → I' x b = I x b) → (∀ j, j < N → I' 111 j = nI (t j)) → K (some (.int 1)) (sm_SH n, sm_uI I' 103 13 (nI N), J)) →
    sm_Ok d 178 37 [.ref 103, x1, .int (nI N), .int (nI k)] [] (sm_SH n, I1, J) K
  | 0, k, h, I1, f1, f2, hK => by
    have hk : k = N := by omega
    subst hk
    rw [z178_37]
    simp only [z178_0, z178_1, z178_2, z178_3, z178_6, z178_9, z178_10, z178_11, z178_14, z178_15, z178_16, z178_17, z178_20, z178_21, z178_24, z178_27, z178_29, z178_30, z178_33, z178_34, z178_35, z178_36, z178_38, z178_39, z178_42, z178_43, z178_46, z178_47, z178_48, z178_51, z178_52, z178_53, z178_54, z178_57, z178_60, z178_61, z178_62, z178_65, z178_66, sm_cti, sm_ctr, sm_ctn, sm_nbi, Option.toList_some, Option.toList_none, List.cons_append, List.nil_append, ne_eq, reduceCtorEq, not_false_eq_true, Nat.reduceLeDiff, kc103, Int32.le_refl, if_true, if_false, not_true_eq_false, not_false_eq_true, and_true, true_and, and_false, false_and, and_self, or_true, true_or, or_false, false_or, reduceIte, iff_self, Int32.add_zero, y_10, Classical.not_not]
    exact hK I1 f1 f2
  | w + 1, k, h, I1, f1, f2, hK => by
    have hk : k < N := by omega
    rw [z178_37]
    simp only [z178_0, z178_1, z178_2, z178_3, z178_6, z178_9, z178_10, z178_11, z178_14, z178_15, z178_16, z178_17, z178_20, z178_21, z178_24, z178_27, z178_29, z178_30, z178_33, z178_34, z178_35, z178_36, z178_38, z178_39, z178_42, z178_43, z178_46, z178_47, z178_48, z178_51, z178_52, z178_53, z178_54, z178_57, z178_60, z178_61, z178_62, z178_65, z178_66, sm_cti, sm_ctr, sm_ctn, sm_nbi, Option.toList_some, Option.toList_none, List.cons_append, List.nil_append, ne_eq, reduceCtorEq, not_false_eq_true, Nat.reduceLeDiff, kc103, kc110, kc111, rf103_10, rf103_12, if_neg (nI_ge hk (show N < 2 ^ 31 by omega)), y_inN (show k < 120 by omega) (by decide), nI_clamp (show k < 2 ^ 31 by omega), nI_1, if_true, if_false, not_true_eq_false, not_false_eq_true, and_true, true_and, and_false, false_and, and_self, or_true, true_or, or_false, false_or, reduceIte, iff_self, Int32.add_zero, y_10, Classical.not_not]
    refine m_law_lp d n J K x1 hN hb w (k + 1) (by omega) _ (fun x b hx => by rw [uI_q _ _ hx, f1 x b hx]) (fun j hj => ?_) hK
    by_cases e : j = k
    · subst e
      rw [uI_s, f1 _ _ (by omega), hb j hk]
    · rw [uI_o _ _ (by omega), f2 j (by omega)]
theorem m_law {I : sm_I} (hN : N ≤ 120) (ht : ∀ j, j < N → t j < 256) (h11 : I 103 11 = nI N) (hb : ∀ j, j < N → I 110 j = nI (t j)) (d n : Nat) (J : sm_J) (K : Option Value → sm_H → Prop)
    (hK : ∀ I', (∀ x b, ¬ (x = 103 ∧ 11 ≤ b ∧ b ≤ 18) → ¬ x = 111 → I' x b = I x b) → I' 103 11 = 0 → ((pt t N).2.1 = false ∧ (pt t N).1 = N → I' 103 13 = nI N ∧ ∀ j, j < N → I' 111 j = nI (t j)) → (¬ ((pt t N).2.1 = false ∧ (pt t N).1 = N) → I' 103 13 = I 103 13 ∧ ∀ b, I' 111 b = I 111 b) → K (some (.int (if (pt t N).2.1 = false ∧ (pt t N).1 = N then 1 else -100 - nI (pt t N).1))) (sm_SH n, I', J)) :
    sm_Ok (d + 47) 178 0 [.ref 103, .null, .null, .null] [] (sm_SH n, I, J) K := by
  have hp := pt_gp t N
  simp only [z178_0, z178_1, z178_2, z178_3, z178_6, z178_9, z178_10, z178_11, z178_14, z178_15, z178_16, z178_17, z178_20, z178_21, z178_24, z178_27, z178_29, z178_30, z178_33, z178_34, z178_35, z178_36, z178_38, z178_39, z178_42, z178_43, z178_46, z178_47, z178_48, z178_51, z178_52, z178_53, z178_54, z178_57, z178_60, z178_61, z178_62, z178_65, z178_66, sm_cti, sm_ctr, sm_ctn, sm_nbi, Option.toList_some, Option.toList_none, List.cons_append, List.nil_append, ne_eq, reduceCtorEq, not_false_eq_true, Nat.reduceLeDiff, kc103, rc103, h11, if_true, if_false, not_true_eq_false, not_false_eq_true, and_true, true_and, and_false, false_and, and_self, or_true, true_or, or_false, false_or, reduceIte, iff_self, Int32.add_zero, y_10, Classical.not_not]
  refine m_work hN ht (Or.inl ⟨rfl, hb⟩) d n J _ (fun I1 v f1 f17 hv => ?_)
  have e11 : I1 103 11 = nI N := by rw [f1 _ _ (by omega), h11]
  have e17 : sm_uI I1 103 11 0 103 17 = I1 103 17 := uI_o _ _ (by omega)
  by_cases hok : (pt t N).2.1 = false ∧ (pt t N).1 = N
  · rw [if_pos hok] at f17 hK
    have hF : (-1 : Int32) < 0 := by decide
    simp only [z178_0, z178_1, z178_2, z178_3, z178_6, z178_9, z178_10, z178_11, z178_14, z178_15, z178_16, z178_17, z178_20, z178_21, z178_24, z178_27, z178_29, z178_30, z178_33, z178_34, z178_35, z178_36, z178_38, z178_39, z178_42, z178_43, z178_46, z178_47, z178_48, z178_51, z178_52, z178_53, z178_54, z178_57, z178_60, z178_61, z178_62, z178_65, z178_66, sm_cti, sm_ctr, sm_ctn, sm_nbi, Option.toList_some, Option.toList_none, List.cons_append, List.nil_append, ne_eq, reduceCtorEq, not_false_eq_true, Nat.reduceLeDiff, kc103, e11, e17, f17, hF, if_true, if_false, not_true_eq_false, not_false_eq_true, and_true, true_and, and_false, false_and, and_self, or_true, true_or, or_false, false_or, reduceIte, iff_self, Int32.add_zero, y_10, Classical.not_not]
    rw [← nI_0]
    refine m_law_lp (I := sm_uI I1 103 11 (nI 0)) _ n J K _ hN (fun j hj => by rw [uI_q _ _ (by omega), f1 _ _ (by omega), hb j hj]) N 0 (by omega) _ (fun x b _ => rfl) (fun j hj => absurd hj (Nat.not_lt_zero _)) (fun I2 f2 f3 => ?_)
    · refine hK _ (fun x b hx hy => ?_) ?_ (fun _ => ⟨uI_s _ _ _ _, fun j hj => by rw [uI_q _ _ (by omega), f3 j hj]⟩) (fun z => absurd hok z)
      · rw [uI_o _ _ (by omega), f2 x b hy, uI_o _ _ (by omega), f1 x b (by omega)]
      · rw [uI_o _ _ (by omega), f2 _ _ (by omega), uI_s]
        rfl
  · rw [if_neg hok] at f17 hK
    have hF : ¬ nI (pt t N).1 < 0 := nI_pos (by omega)
    simp only [z178_0, z178_1, z178_2, z178_3, z178_6, z178_9, z178_10, z178_11, z178_14, z178_15, z178_16, z178_17, z178_20, z178_21, z178_24, z178_27, z178_29, z178_30, z178_33, z178_34, z178_35, z178_36, z178_38, z178_39, z178_42, z178_43, z178_46, z178_47, z178_48, z178_51, z178_52, z178_53, z178_54, z178_57, z178_60, z178_61, z178_62, z178_65, z178_66, sm_cti, sm_ctr, sm_ctn, sm_nbi, Option.toList_some, Option.toList_none, List.cons_append, List.nil_append, ne_eq, reduceCtorEq, not_false_eq_true, Nat.reduceLeDiff, kc103, e11, e17, f17, hF, if_true, if_false, not_true_eq_false, not_false_eq_true, and_true, true_and, and_false, false_and, and_self, or_true, true_or, or_false, false_or, reduceIte, iff_self, Int32.add_zero, y_10, Classical.not_not]
    refine hK _ (fun x b hx hy => ?_) (uI_s _ _ _ _) (fun z => absurd z hok) (fun _ => ⟨?_, fun b => ?_⟩)
    · rw [uI_o _ _ (by omega), f1 x b (by omega)]
    · rw [uI_o _ _ (by omega), f1 _ _ (by omega)]
    · rw [uI_q _ _ (by omega), f1 _ _ (by omega)]
end
