/-! both answer alike: crowd -/
/-- whether two songs clash -/
abbrev CL (f a b : Nat → Nat) (e o : Nat) : Prop := b e = b o ∨ nb (f (a e)) (f (a o)) (f 52)
theorem CL_sym {f a b : Nat → Nat} {e o : Nat} (h : CL f a b e o) : CL f a b o e := by
  rcases h with h | h
  · exact Or.inl h.symm
  · exact Or.inr ⟨h.2, h.1⟩
def andb (g : Nat → Bool) : Nat → Bool
  | 0 => true
  | k + 1 => andb g k && g k
theorem andb_s {g : Nat → Bool} {k : Nat} : andb g (k + 1) = (andb g k && g k) := rfl
theorem andb_iff {g : Nat → Bool} : ∀ {n : Nat}, andb g n = true ↔ ∀ k, k < n → g k = true
  | 0 => ⟨fun _ k hk => absurd hk (Nat.not_lt_zero _), fun _ => rfl⟩
  | n + 1 => by
    rw [andb_s, Bool.and_eq_true, andb_iff]
    constructor
    · rintro ⟨h1, h2⟩ k hk
      by_cases e : k = n
      · rw [e]
        exact h2
      · exact h1 k (by omega)
    · intro h
      exact ⟨fun k hk => h k (by omega), h n (by omega)⟩
theorem andb_f {g : Nat → Bool} {k n : Nat} (hk : k < n) (h : g k = false) : andb g n = false := by
  cases e : andb g n with
  | false => rfl
  | true => exact absurd (andb_iff.mp e k hk) (by rw [h]; decide)
def bi (v : Bool) : Int32 := if v = true then 1 else 0
theorem bi0 (v : Bool) : (bi v = 0) = (v = false) := by cases v <;> decide
/-- the bits of those that clash with e -/
def cls (f a b : Nat → Nat) (e : Nat) : Nat → Int32
  | 0 => 0
  | k + 1 => if ¬ k = e ∧ CL f a b e k then cls f a b e k ||| (1 <<< (nI k &&& 31)) else cls f a b e k
theorem cls_s {f a b : Nat → Nat} {e k : Nat} : cls f a b e (k + 1) = if ¬ k = e ∧ CL f a b e k then cls f a b e k ||| (1 <<< (nI k &&& 31)) else cls f a b e k := rfl
theorem tb_cls {f a b : Nat → Nat} {e : Nat} : ∀ {D : Nat}, D ≤ 12 → ∀ i, i < 32 → (tb (cls f a b e D) i = true ↔ i < D ∧ ¬ i = e ∧ CL f a b e i)
  | 0, _, i, _ => by
    show tb 0 i = true ↔ _
    rw [tb_0]
    exact ⟨fun z => absurd z (by decide), fun z => absurd z.1 (Nat.not_lt_zero _)⟩
  | k + 1, h, i, hi => by
    have ih := tb_cls (f := f) (a := a) (b := b) (e := e) (D := k) (by omega) i hi
    rw [cls_s]
    by_cases hk : ¬ k = e ∧ CL f a b e k
    · rw [if_pos hk, tb_or, Bool.or_eq_true, ih, tb_bit0 k (by omega) i hi, decide_eq_true_iff]
      constructor
      · rintro (h1 | rfl)
        · exact ⟨by omega, h1.2⟩
        · exact ⟨by omega, hk⟩
      · rintro ⟨h1, h2⟩
        by_cases e1 : i = k
        · exact Or.inr e1
        · exact Or.inl ⟨by omega, h2⟩
    · rw [if_neg hk, ih]
      constructor
      · rintro ⟨h1, h2⟩
        exact ⟨by omega, h2⟩
      · rintro ⟨h1, h2⟩
        by_cases e1 : i = k
        · subst e1
          exact absurd h2 hk
        · exact ⟨by omega, h2⟩
section
variable {P D : Nat} {f a b : Nat → Nat}
theorem bd_15 (hb : bdf P D f a b) {p : Nat} (hp : p < 8) : f p ≤ 15 := by
  have := hb.2.2.1 p (by omega)
  unfold top at this
  rw [if_pos hp] at this
  exact this
theorem bd_52 (hb : bdf P D f a b) : f 52 ≤ 15 := hb.2.2.1 52 (by omega)
theorem c_clash {I : sm_I} (hb : bdf P D f a b) (hF : cFo P D f a b I) {e o : Nat} (he : e < D) (ho : o < D) (d n : Nat) (J : sm_J) (K : Option Value → sm_H → Prop) :
    sm_Ok (d + 1) 78 0 [.ref 80, .int (nI e), .int (nI o)] [] (sm_SH n, I, J) K ↔ K (some (.int (if CL f a b e o then 1 else 0))) (sm_SH n, I, J) := by
  have hD := hb.2.1
  obtain ⟨e8, eb8⟩ := bd_ab hb e he
  obtain ⟨o8, ob8⟩ := bd_ab hb o ho
  obtain ⟨E1, E2⟩ := hF.2.2.2.2 e he
  obtain ⟨O1, O2⟩ := hF.2.2.2.2 o ho
  have h1 := (hF.2.2.2.1 (a e) e8).1
  have h2 := (hF.2.2.2.1 (a o) o8).1
  have b1 := bd_15 hb e8
  have b2 := bd_15 hb o8
  have b3 := bd_52 hb
  have l1 : (nI (b e) = nI (b o)) = (b e = b o) := propext (nI_eq (by omega) (by omega))
  have l2 : (nI (f (a o)) - nI (f (a e)) ≤ nI (f 52) ∧ -(nI (f (a o)) - nI (f (a e))) ≤ nI (f 52)) = nb (f (a e)) (f (a o)) (f 52) := propext ((nb_c (by omega) (by omega) (by omega)).trans ⟨fun z => ⟨z.2, z.1⟩, fun z => ⟨z.2, z.1⟩⟩)
  by_cases c1 : b e = b o
  · have c1' := eq_true c1
    rw [if_pos (show CL f a b e o from Or.inl c1)]
    simp only [z78_62_0, z78_62_1, z78_0, z78_1, z78_4, z78_7, z78_8, z78_9, z78_10, z78_13, z78_16, z78_17, z78_18, z78_21, z78_22, z78_25, z78_26, z78_29, z78_32, z78_33, z78_36, z78_39, z78_40, z78_41, z78_42, z78_43, z78_46, z78_49, z78_50, z78_51, z78_54, z78_57, z78_58, z78_61, z78_62, sm_cti, sm_ctr, sm_ctn, sm_nbi, Option.toList_some, Option.toList_none, List.cons_append, List.nil_append, ne_eq, reduceCtorEq, not_false_eq_true, Nat.reduceLeDiff, kc34, kc39, kc80, rf80_1, rf34_4, E2, O2, l1, c1', y_inN (show e < 12 by omega) (by decide), nI_clamp (show e < 2 ^ 31 by omega), y_inN (show o < 12 by omega) (by decide), nI_clamp (show o < 2 ^ 31 by omega), if_true, if_false, not_true_eq_false, not_false_eq_true, and_true, true_and, and_false, false_and, and_self, or_true, true_or, or_false, false_or, reduceIte, iff_self, Int32.add_zero, y_10, Classical.not_not]
  · by_cases c2 : nb (f (a e)) (f (a o)) (f 52)
    · have c2' := eq_true c2
      rw [if_pos (show CL f a b e o from Or.inr c2)]
      simp only [z78_62_0, z78_62_1, z78_0, z78_1, z78_4, z78_7, z78_8, z78_9, z78_10, z78_13, z78_16, z78_17, z78_18, z78_21, z78_22, z78_25, z78_26, z78_29, z78_32, z78_33, z78_36, z78_39, z78_40, z78_41, z78_42, z78_43, z78_46, z78_49, z78_50, z78_51, z78_54, z78_57, z78_58, z78_61, z78_62, sm_cti, sm_ctr, sm_ctn, sm_nbi, Option.toList_some, Option.toList_none, List.cons_append, List.nil_append, ne_eq, reduceCtorEq, not_false_eq_true, Nat.reduceLeDiff, kc34, kc35, kc38, kc39, kc80, rc34, rf80_1, rf34_0, rf34_3, rf34_4, E1, E2, O1, O2, h1, h2, hF.2.2.1, l1, c1, y_isNear _ _ _ _ _ _ o8, l2, c2', y_bit, y_inN (show e < 12 by omega) (by decide), nI_clamp (show e < 2 ^ 31 by omega), y_inN (show o < 12 by omega) (by decide), nI_clamp (show o < 2 ^ 31 by omega), y_inN e8 (by decide), nI_clamp (show a e < 2 ^ 31 by omega), if_true, if_false, not_true_eq_false, not_false_eq_true, and_true, true_and, and_false, false_and, and_self, or_true, true_or, or_false, false_or, reduceIte, iff_self, Int32.add_zero, y_10, Classical.not_not]
    · have c2' := eq_false c2
      rw [if_neg (show ¬ CL f a b e o from fun z => z.elim c1 c2)]
      simp only [z78_62_0, z78_62_1, z78_0, z78_1, z78_4, z78_7, z78_8, z78_9, z78_10, z78_13, z78_16, z78_17, z78_18, z78_21, z78_22, z78_25, z78_26, z78_29, z78_32, z78_33, z78_36, z78_39, z78_40, z78_41, z78_42, z78_43, z78_46, z78_49, z78_50, z78_51, z78_54, z78_57, z78_58, z78_61, z78_62, sm_cti, sm_ctr, sm_ctn, sm_nbi, Option.toList_some, Option.toList_none, List.cons_append, List.nil_append, ne_eq, reduceCtorEq, not_false_eq_true, Nat.reduceLeDiff, kc34, kc35, kc38, kc39, kc80, rc34, rf80_1, rf34_0, rf34_3, rf34_4, E1, E2, O1, O2, h1, h2, hF.2.2.1, l1, c1, y_isNear _ _ _ _ _ _ o8, l2, c2', y_bit, y_inN (show e < 12 by omega) (by decide), nI_clamp (show e < 2 ^ 31 by omega), y_inN (show o < 12 by omega) (by decide), nI_clamp (show o < 2 ^ 31 by omega), y_inN e8 (by decide), nI_clamp (show a e < 2 ^ 31 by omega), if_true, if_false, not_true_eq_false, not_false_eq_true, and_true, true_and, and_false, false_and, and_self, or_true, true_or, or_false, false_or, reduceIte, iff_self, Int32.add_zero, y_10, Classical.not_not]
theorem m_clash {I : sm_I} (hb : bdf P D f a b) (hM : mFo P D f a b I) {e o : Nat} (he : e < D) (ho : o < D) (d n : Nat) (J : sm_J) (K : Option Value → sm_H → Prop) :
    sm_Ok (d + 1) 201 0 [.ref 103, .int (nI e), .int (nI o)] [] (sm_SH n, I, J) K ↔ K (some (.int (if CL f a b e o then 1 else 0))) (sm_SH n, I, J) := by
  have hD := hb.2.1
  obtain ⟨e8, eb8⟩ := bd_ab hb e he
  obtain ⟨o8, ob8⟩ := bd_ab hb o ho
  obtain ⟨E1, E2⟩ := hM.2.2.2 e he
  obtain ⟨O1, O2⟩ := hM.2.2.2 o ho
  have h1 := hM.2.2.1 (a e) (by omega)
  have h2 := hM.2.2.1 (a o) (by omega)
  have h3 := hM.2.2.1 52 (by omega)
  have b1 := bd_15 hb e8
  have b2 := bd_15 hb o8
  have b3 := bd_52 hb
  have l1 : (nI (b e) = nI (b o)) = (b e = b o) := propext (nI_eq (by omega) (by omega))
  have l2 : ((if nI (f (a e)) ≤ nI (f (a o)) then nI (f (a o)) - nI (f (a e)) else nI (f (a e)) - nI (f (a o))) ≤ nI (f 52)) = nb (f (a e)) (f (a o)) (f 52) := propext (nb_m (by omega) (by omega) (by omega))
  by_cases c1 : b e = b o
  · have c1' := eq_true c1
    rw [if_pos (show CL f a b e o from Or.inl c1)]
    simp only [z201_49_0, z201_49_1, z201_0, z201_1, z201_4, z201_5, z201_6, z201_7, z201_10, z201_11, z201_12, z201_15, z201_16, z201_17, z201_20, z201_21, z201_24, z201_25, z201_26, z201_27, z201_28, z201_31, z201_32, z201_35, z201_36, z201_37, z201_38, z201_41, z201_44, z201_45, z201_48, z201_49, sm_cti, sm_ctr, sm_ctn, sm_nbi, Option.toList_some, Option.toList_none, List.cons_append, List.nil_append, ne_eq, reduceCtorEq, not_false_eq_true, Nat.reduceLeDiff, kc103, kc109, rf103_9, E2, O2, l1, c1', y_inN (show e < 12 by omega) (by decide), nI_clamp (show e < 2 ^ 31 by omega), y_inN (show o < 12 by omega) (by decide), nI_clamp (show o < 2 ^ 31 by omega), if_true, if_false, not_true_eq_false, not_false_eq_true, and_true, true_and, and_false, false_and, and_self, or_true, true_or, or_false, false_or, reduceIte, iff_self, Int32.add_zero, y_10, Classical.not_not]
  · by_cases c2 : nb (f (a e)) (f (a o)) (f 52)
    · have c2' := eq_true c2
      rw [if_pos (show CL f a b e o from Or.inr c2)]
      simp only [z201_49_0, z201_49_1, z201_0, z201_1, z201_4, z201_5, z201_6, z201_7, z201_10, z201_11, z201_12, z201_15, z201_16, z201_17, z201_20, z201_21, z201_24, z201_25, z201_26, z201_27, z201_28, z201_31, z201_32, z201_35, z201_36, z201_37, z201_38, z201_41, z201_44, z201_45, z201_48, z201_49, sm_cti, sm_ctr, sm_ctn, sm_nbi, Option.toList_some, Option.toList_none, List.cons_append, List.nil_append, ne_eq, reduceCtorEq, not_false_eq_true, Nat.reduceLeDiff, kc103, kc104, kc108, kc109, rc103, rf103_0, rf103_8, rf103_9, E1, E2, O1, O2, h1, h2, h3, l1, c1, m_areNear, l2, c2', y_bit, y_inN (show e < 12 by omega) (by decide), nI_clamp (show e < 2 ^ 31 by omega), y_inN (show o < 12 by omega) (by decide), nI_clamp (show o < 2 ^ 31 by omega), y_inN (show a e < 54 by omega) (by decide), nI_clamp (show a e < 2 ^ 31 by omega), y_inN (show a o < 54 by omega) (by decide), nI_clamp (show a o < 2 ^ 31 by omega), if_true, if_false, not_true_eq_false, not_false_eq_true, and_true, true_and, and_false, false_and, and_self, or_true, true_or, or_false, false_or, reduceIte, iff_self, Int32.add_zero, y_10, Classical.not_not]
    · have c2' := eq_false c2
      rw [if_neg (show ¬ CL f a b e o from fun z => z.elim c1 c2)]
      simp only [z201_49_0, z201_49_1, z201_0, z201_1, z201_4, z201_5, z201_6, z201_7, z201_10, z201_11, z201_12, z201_15, z201_16, z201_17, z201_20, z201_21, z201_24, z201_25, z201_26, z201_27, z201_28, z201_31, z201_32, z201_35, z201_36, z201_37, z201_38, z201_41, z201_44, z201_45, z201_48, z201_49, sm_cti, sm_ctr, sm_ctn, sm_nbi, Option.toList_some, Option.toList_none, List.cons_append, List.nil_append, ne_eq, reduceCtorEq, not_false_eq_true, Nat.reduceLeDiff, kc103, kc104, kc108, kc109, rc103, rf103_0, rf103_8, rf103_9, E1, E2, O1, O2, h1, h2, h3, l1, c1, m_areNear, l2, c2', y_bit, y_inN (show e < 12 by omega) (by decide), nI_clamp (show e < 2 ^ 31 by omega), y_inN (show o < 12 by omega) (by decide), nI_clamp (show o < 2 ^ 31 by omega), y_inN (show a e < 54 by omega) (by decide), nI_clamp (show a e < 2 ^ 31 by omega), y_inN (show a o < 54 by omega) (by decide), nI_clamp (show a o < 2 ^ 31 by omega), if_true, if_false, not_true_eq_false, not_false_eq_true, and_true, true_and, and_false, false_and, and_self, or_true, true_or, or_false, false_or, reduceIte, iff_self, Int32.add_zero, y_10, Classical.not_not]
theorem c_lk_in {I : sm_I} (hb : bdf P D f a b) (hF : cFo P D f a b I) {e : Nat} (he : e < D) (d n : Nat) (J : sm_J) (K : Option Value → sm_H → Prop) : ∀ (w k : Nat), k + w = D → ∀ I1 : sm_I, (∀ x c, ¬ (x = 82 ∧ c = e) → I1 x c = I x c) → I1 82 e = cls f a b e k →
    (∀ I', (∀ x c, ¬ (x = 82 ∧ c = e) → I' x c = I x c) → I' 82 e = cls f a b e D → sm_Ok (d + 2) 77 91 [.ref 80, .ref 40, .int (nI e), .int (nI D)] [] (sm_SH n, I', J) K) →
    sm_Ok (d + 2) 77 48 [.ref 80, .ref 40, .int (nI e), .int (nI k)] [] (sm_SH n, I1, J) K
  | 0, k, h, I1, f1, f2, hK => by
    have hk : k = D := by omega
    subst hk
    have e7 : I1 34 7 = nI k := by rw [f1 _ _ (by omega), hF.2.1]
    rw [z77_48]
    simp only [z77_49, z77_50, z77_53, z77_56, sm_cti, sm_ctr, sm_ctn, sm_nbi, Option.toList_some, Option.toList_none, List.cons_append, List.nil_append, ne_eq, reduceCtorEq, not_false_eq_true, Nat.reduceLeDiff, kc34, kc80, rf80_1, e7, Int32.le_refl, if_true, if_false, not_true_eq_false, not_false_eq_true, and_true, true_and, and_false, false_and, and_self, or_true, true_or, or_false, false_or, reduceIte, iff_self, Int32.add_zero, y_10, Classical.not_not]
    exact hK I1 f1 f2
  | w + 1, k, h, I1, f1, f2, hK => by
    have hD := hb.2.1
    have e7 : I1 34 7 = nI D := by rw [f1 _ _ (by omega), hF.2.1]
    have e0 : ¬ nI D ≤ nI k := nI_ge (show k < D by omega) (by omega)
    have F1 : cFo P D f a b I1 := cFo_f hF (fun x c h1 h2 => f1 x c (by omega))
    have l1 : (nI k = nI e) = (k = e) := propext (nI_eq (by omega) (by omega))
    rw [z77_48]
    by_cases h1 : k = e
    · have h1' := eq_true h1
      simp only [z77_49, z77_50, z77_53, z77_56, z77_59, z77_60, z77_61, z77_85, z77_88, sm_cti, sm_ctr, sm_ctn, sm_nbi, Option.toList_some, Option.toList_none, List.cons_append, List.nil_append, ne_eq, reduceCtorEq, not_false_eq_true, Nat.reduceLeDiff, kc34, kc80, rf80_1, e7, e0, l1, h1', nI_1, if_true, if_false, not_true_eq_false, not_false_eq_true, and_true, true_and, and_false, false_and, and_self, or_true, true_or, or_false, false_or, reduceIte, iff_self, Int32.add_zero, y_10, Classical.not_not]
      refine c_lk_in hb hF he d n J K w (k + 1) (by omega) I1 f1 ?_ hK
      rw [cls_s, if_neg (fun z => z.1 h1), f2]
    · by_cases h2 : CL f a b e k
      · have h2' := eq_true h2
        simp only [z77_49, z77_50, z77_53, z77_56, z77_59, z77_60, z77_61, z77_64, z77_65, z77_66, z77_67, z77_70, z77_73, z77_74, z77_77, z77_78, z77_79, z77_80, z77_81, z77_82, z77_83, z77_84, z77_85, z77_88, sm_cti, sm_ctr, sm_ctn, sm_nbi, Option.toList_some, Option.toList_none, List.cons_append, List.nil_append, ne_eq, reduceCtorEq, not_false_eq_true, Nat.reduceLeDiff, kc34, kc80, kc82, rc80, rf80_1, rf80_2, e7, e0, l1, h1, c_clash hb F1 he (show k < D by omega), h2', f2, y_bit, nI_1, y_inN (show e < 12 by omega) (by decide), nI_clamp (show e < 2 ^ 31 by omega), if_true, if_false, not_true_eq_false, not_false_eq_true, and_true, true_and, and_false, false_and, and_self, or_true, true_or, or_false, false_or, reduceIte, iff_self, Int32.add_zero, y_10, Classical.not_not]
        refine c_lk_in hb hF he d n J K w (k + 1) (by omega) _ (fun x c hx => by rw [uI_o _ _ hx, f1 x c hx]) ?_ hK
        rw [cls_s, if_pos ⟨h1, h2⟩, uI_s]
      · have h2' := eq_false h2
        simp only [z77_49, z77_50, z77_53, z77_56, z77_59, z77_60, z77_61, z77_64, z77_65, z77_66, z77_67, z77_70, z77_85, z77_88, sm_cti, sm_ctr, sm_ctn, sm_nbi, Option.toList_some, Option.toList_none, List.cons_append, List.nil_append, ne_eq, reduceCtorEq, not_false_eq_true, Nat.reduceLeDiff, kc34, kc80, rc80, rf80_1, e7, e0, l1, h1, c_clash hb F1 he (show k < D by omega), h2', y_bit, nI_1, if_true, if_false, not_true_eq_false, not_false_eq_true, and_true, true_and, and_false, false_and, and_self, or_true, true_or, or_false, false_or, reduceIte, iff_self, Int32.add_zero, y_10, Classical.not_not]
        refine c_lk_in hb hF he d n J K w (k + 1) (by omega) I1 f1 ?_ hK
        rw [cls_s, if_neg (fun z => h2 z.2), f2]
theorem c_lk_lp {I : sm_I} (hb : bdf P D f a b) (hF : cFo P D f a b I) (hT : cTa 40 f I) (d n : Nat) (J : sm_J) (K : Option Value → sm_H → Prop) : ∀ (w k : Nat), k + w = D → ∀ (I1 : sm_I) (x3 : Value), x3.category = 1 → (∀ x c, ¬ (x = 82 ∨ (x = 80 ∧ c = 4)) → I1 x c = I x c) → I1 80 4 = ow f k → (∀ j, j < k → I1 82 j = cls f a b j D) →
    (∀ I', (∀ x c, ¬ (x = 82 ∨ (x = 80 ∧ c = 4)) → I' x c = I x c) → I' 80 4 = ow f D → (∀ j, j < D → I' 82 j = cls f a b j D) → K none (sm_SH n, I', J)) →
    sm_Ok (d + 2) 77 7 [.ref 80, .ref 40, .int (nI k), x3] [] (sm_SH n, I1, J) K
  | 0, k, h, I1, x3, hx, f1, f2, f3, hK => by
    have hk : k = D := by omega
    subst hk
    have e7 : I1 34 7 = nI k := by rw [f1 _ _ (by omega), hF.2.1]
    rw [z77_7]
    simp only [z77_8, z77_9, z77_12, z77_15, z77_97, sm_cti, sm_ctr, sm_ctn, sm_nbi, Option.toList_some, Option.toList_none, List.cons_append, List.nil_append, ne_eq, reduceCtorEq, not_false_eq_true, Nat.reduceLeDiff, kc34, kc80, rf80_1, e7, Int32.le_refl, if_true, if_false, not_true_eq_false, not_false_eq_true, and_true, true_and, and_false, false_and, and_self, or_true, true_or, or_false, false_or, reduceIte, iff_self, Int32.add_zero, y_10, Classical.not_not]
    exact hK I1 f1 f2 f3
  | w + 1, k, h, I1, x3, hx, f1, f2, f3, hK => by
    have hD := hb.2.1
    have hk : k < D := by omega
    have e7 : I1 34 7 = nI D := by rw [f1 _ _ (by omega), hF.2.1]
    have e0 : ¬ nI D ≤ nI k := nI_ge hk (by omega)
    have e3 : ∀ v, sm_uI I1 82 k v 43 k = nI (f (40 + k)) := fun v => by rw [uI_q _ _ (by omega), f1 _ _ (by omega)]; exact hT.2.1 k (by omega)
    have e4 : ∀ v, sm_uI I1 82 k v 80 4 = ow f k := fun v => by rw [uI_q _ _ (by omega), f2]
    have tl := hb.2.2.1 (40 + k) (by omega)
    have tt := top_le (40 + k)
    have n0 : (0 : Int32) = nI 0 := rfl
    rw [z77_7]
    by_cases hg : f (40 + k) = 0
    · have l : nI (f (40 + k)) ≤ 0 := by rw [hg]; decide
      simp only [z77_8, z77_9, z77_12, z77_15, z77_18, z77_19, z77_22, z77_23, z77_24, z77_25, z77_26, z77_29, z77_30, z77_31, z77_46, z77_47, sm_cti, sm_ctr, sm_ctn, sm_nbi, Option.toList_some, Option.toList_none, List.cons_append, List.nil_append, ne_eq, reduceCtorEq, not_false_eq_true, Nat.reduceLeDiff, kc34, kc40, kc43, kc80, kc82, rf80_1, rf80_2, rf40_2, e7, e0, e3, l, hx, y_inN (show k < 12 by omega) (by decide), nI_clamp (show k < 2 ^ 31 by omega), if_true, if_false, not_true_eq_false, not_false_eq_true, and_true, true_and, and_false, false_and, and_self, or_true, true_or, or_false, false_or, reduceIte, iff_self, Int32.add_zero, y_10, Classical.not_not]
      rw [n0]
      refine c_lk_in (I := sm_uI I1 82 k (nI 0)) hb (cFo_f hF (fun x c h1 h2 => by rw [uI_q _ _ (by omega), f1 x c (by omega)])) hk d n J K D 0 (by omega) _ (fun _ _ _ => rfl) (uI_s _ _ _ _) (fun I2 w1 w2 => ?_)
      simp only [z77_91, z77_94, sm_cti, sm_ctr, sm_ctn, sm_nbi, Option.toList_some, Option.toList_none, List.cons_append, List.nil_append, ne_eq, reduceCtorEq, not_false_eq_true, Nat.reduceLeDiff, nI_1, if_true, if_false, not_true_eq_false, not_false_eq_true, and_true, true_and, and_false, false_and, and_self, or_true, true_or, or_false, false_or, reduceIte, iff_self, Int32.add_zero, y_10, Classical.not_not]
      refine c_lk_lp hb hF hT d n J K w (k + 1) (by omega) I2 _ rfl (fun x c hx => by rw [w1 _ _ (by omega), uI_q _ _ (by omega), f1 _ _ hx]) ?_ (fun j hj => ?_) hK
      · rw [w1 _ _ (by omega), e4, ow_s, if_pos hg]
      · by_cases hjk : j = k
        · subst hjk
          exact w2
        · rw [w1 _ _ (by omega), uI_o _ _ (by omega), f3 j (by omega)]
    · have l : ¬ nI (f (40 + k)) ≤ 0 := nI_ge (a := 0) (by omega) (by omega)
      simp only [z77_8, z77_9, z77_12, z77_15, z77_18, z77_19, z77_22, z77_23, z77_24, z77_25, z77_26, z77_29, z77_30, z77_31, z77_34, z77_35, z77_36, z77_39, z77_40, z77_41, z77_42, z77_43, z77_46, z77_47, sm_cti, sm_ctr, sm_ctn, sm_nbi, Option.toList_some, Option.toList_none, List.cons_append, List.nil_append, ne_eq, reduceCtorEq, not_false_eq_true, Nat.reduceLeDiff, kc34, kc40, kc43, kc80, kc82, rf80_1, rf80_2, rf40_2, e7, e0, e3, e4, l, hx, y_inN (show k < 12 by omega) (by decide), nI_clamp (show k < 2 ^ 31 by omega), if_true, if_false, not_true_eq_false, not_false_eq_true, and_true, true_and, and_false, false_and, and_self, or_true, true_or, or_false, false_or, reduceIte, iff_self, Int32.add_zero, y_10, Classical.not_not]
      rw [n0]
      refine c_lk_in (I := sm_uI (sm_uI I1 82 k (nI 0)) 80 4 (ow f k ||| (1 <<< (nI k &&& 31)))) hb (cFo_f hF (fun x c h1 h2 => by rw [uI_q _ _ (by omega), uI_q _ _ (by omega), f1 x c (by omega)])) hk d n J K D 0 (by omega) _ (fun _ _ _ => rfl) (by rw [uI_q _ _ (by omega), uI_s]; rfl) (fun I2 w1 w2 => ?_)
      simp only [z77_91, z77_94, sm_cti, sm_ctr, sm_ctn, sm_nbi, Option.toList_some, Option.toList_none, List.cons_append, List.nil_append, ne_eq, reduceCtorEq, not_false_eq_true, Nat.reduceLeDiff, nI_1, if_true, if_false, not_true_eq_false, not_false_eq_true, and_true, true_and, and_false, false_and, and_self, or_true, true_or, or_false, false_or, reduceIte, iff_self, Int32.add_zero, y_10, Classical.not_not]
      refine c_lk_lp hb hF hT d n J K w (k + 1) (by omega) I2 _ rfl (fun x c hx => by rw [w1 _ _ (by omega), uI_o _ _ (by omega), uI_q _ _ (by omega), f1 _ _ hx]) ?_ (fun j hj => ?_) hK
      · rw [w1 _ _ (by omega), uI_s, ow_s, if_neg hg]
      · by_cases hjk : j = k
        · subst hjk
          exact w2
        · rw [w1 _ _ (by omega), uI_q _ _ (by omega), uI_o _ _ (by omega), f3 j (by omega)]
theorem c_look {I : sm_I} (hb : bdf P D f a b) (hF : cFo P D f a b I) (hT : cTa 40 f I) (d n : Nat) (J : sm_J) (K : Option Value → sm_H → Prop)
    (hK : ∀ I', (∀ x c, ¬ (x = 82 ∨ (x = 80 ∧ c = 4)) → I' x c = I x c) → I' 80 4 = ow f D → (∀ j, j < D → I' 82 j = cls f a b j D) → K none (sm_SH n, I', J)) :
    sm_Ok (d + 2) 77 0 [.ref 80, .ref 40, .null, .null] [] (sm_SH n, I, J) K := by
  have n0 : (0 : Int32) = nI 0 := rfl
  rw [z77_0]
  simp only [z77_1, z77_2, z77_5, z77_6, sm_cti, sm_ctr, sm_ctn, sm_nbi, Option.toList_some, Option.toList_none, List.cons_append, List.nil_append, ne_eq, reduceCtorEq, not_false_eq_true, Nat.reduceLeDiff, kc80, if_true, if_false, not_true_eq_false, not_false_eq_true, and_true, true_and, and_false, false_and, and_self, or_true, true_or, or_false, false_or, reduceIte, iff_self, Int32.add_zero, y_10, Classical.not_not]
  rw [n0]
  exact c_lk_lp hb hF hT d n J K D 0 (by omega) _ .null rfl (fun x c hx => by rw [uI_o _ _ (by omega)]) (uI_s _ _ _ _) (fun j hj => absurd hj (Nat.not_lt_zero _)) hK
/-- what the class asks of one debt of a crowd -/
def gdb (s : Int32) (c : Nat → Int32) (e : Nat) : Bool := decide (s &&& ((1 <<< (nI e &&& 31)) ^^^ (-1)) = s) || decide ((s &&& ((1 <<< (nI e &&& 31)) ^^^ (-1))) &&& (c e ^^^ (-1)) = 0)
theorem c_ac_lp {I : sm_I} {c : Nat → Int32} (hD : D ≤ 12) (h7 : I 34 7 = nI D) (hc : ∀ j, j < D → I 82 j = c j) (s : Int32) (d n : Nat) (J : sm_J) (K : Option Value → sm_H → Prop) : ∀ (w k : Nat), k + w = D → andb (gdb s c) k = true → ∀ x3 : Value, x3.category = 1 →
    (sm_Ok d 80 2 [.ref 80, .int s, .int (nI k), x3] [] (sm_SH n, I, J) K ↔ K (some (.int (bi (andb (gdb s c) D)))) (sm_SH n, I, J))
  | 0, k, h, ha, x3, hx => by
    have hk : k = D := by omega
    subst hk
    rw [z80_2, ha]
    have b1 : bi true = 1 := rfl
    simp only [z80_40_0, z80_40_1, z80_48_0, z80_48_1, z80_1, z80_3, z80_4, z80_7, z80_10, z80_13, z80_14, z80_15, z80_16, z80_17, z80_18, z80_19, z80_20, z80_21, z80_22, z80_23, z80_26, z80_27, z80_28, z80_31, z80_32, z80_33, z80_34, z80_35, z80_36, z80_39, z80_40, z80_41, z80_44, z80_47, z80_48, sm_cti, sm_ctr, sm_ctn, sm_nbi, Option.toList_some, Option.toList_none, List.cons_append, List.nil_append, ne_eq, reduceCtorEq, not_false_eq_true, Nat.reduceLeDiff, kc34, kc80, rf80_1, h7, b1, Int32.le_refl, if_true, if_false, not_true_eq_false, not_false_eq_true, and_true, true_and, and_false, false_and, and_self, or_true, true_or, or_false, false_or, reduceIte, iff_self, Int32.add_zero, y_10, Classical.not_not]
  | w + 1, k, h, ha, x3, hx => by
    have e0 : ¬ nI D ≤ nI k := nI_ge (show k < D by omega) (by omega)
    have ec := hc k (by omega)
    rw [z80_2]
    by_cases h1 : s &&& ((1 <<< (nI k &&& 31)) ^^^ (-1)) = s
    · have h1' := eq_true h1
      have hg : andb (gdb s c) (k + 1) = true := by
        rw [andb_s, ha]
        unfold gdb
        rw [decide_eq_true h1]
        rfl
      rw [← c_ac_lp hD h7 hc s d n J K w (k + 1) (by omega) hg (.int (s &&& ((1 <<< (nI k &&& 31)) ^^^ (-1)))) rfl]
      simp only [z80_40_0, z80_40_1, z80_48_0, z80_48_1, z80_1, z80_3, z80_4, z80_7, z80_10, z80_13, z80_14, z80_15, z80_16, z80_17, z80_18, z80_19, z80_20, z80_21, z80_22, z80_23, z80_26, z80_27, z80_28, z80_31, z80_32, z80_33, z80_34, z80_35, z80_36, z80_39, z80_40, z80_41, z80_44, z80_47, z80_48, sm_cti, sm_ctr, sm_ctn, sm_nbi, Option.toList_some, Option.toList_none, List.cons_append, List.nil_append, ne_eq, reduceCtorEq, not_false_eq_true, Nat.reduceLeDiff, kc34, kc80, rf80_1, h7, e0, hx, h1', nI_1, if_true, if_false, not_true_eq_false, not_false_eq_true, and_true, true_and, and_false, false_and, and_self, or_true, true_or, or_false, false_or, reduceIte, iff_self, Int32.add_zero, y_10, Classical.not_not]
    · by_cases h2 : (s &&& ((1 <<< (nI k &&& 31)) ^^^ (-1))) &&& (c k ^^^ (-1)) = 0
      · have hg : andb (gdb s c) (k + 1) = true := by
          rw [andb_s, ha]
          unfold gdb
          rw [decide_eq_true h2, Bool.or_true]
          rfl
        rw [← c_ac_lp hD h7 hc s d n J K w (k + 1) (by omega) hg (.int (s &&& ((1 <<< (nI k &&& 31)) ^^^ (-1)))) rfl]
        simp only [z80_40_0, z80_40_1, z80_48_0, z80_48_1, z80_1, z80_3, z80_4, z80_7, z80_10, z80_13, z80_14, z80_15, z80_16, z80_17, z80_18, z80_19, z80_20, z80_21, z80_22, z80_23, z80_26, z80_27, z80_28, z80_31, z80_32, z80_33, z80_34, z80_35, z80_36, z80_39, z80_40, z80_41, z80_44, z80_47, z80_48, sm_cti, sm_ctr, sm_ctn, sm_nbi, Option.toList_some, Option.toList_none, List.cons_append, List.nil_append, ne_eq, reduceCtorEq, not_false_eq_true, Nat.reduceLeDiff, kc34, kc80, kc82, rf80_1, rf80_2, h7, e0, hx, h1, h2, ec, nI_1, y_inN (show k < 12 by omega) (by decide), nI_clamp (show k < 2 ^ 31 by omega), if_true, if_false, not_true_eq_false, not_false_eq_true, and_true, true_and, and_false, false_and, and_self, or_true, true_or, or_false, false_or, reduceIte, iff_self, Int32.add_zero, y_10, Classical.not_not]
      · have hg : andb (gdb s c) D = false := andb_f (show k < D by omega) (by
          unfold gdb
          rw [decide_eq_false h1, decide_eq_false h2]
          rfl)
        rw [hg]
        have b0 : bi false = 0 := rfl
        simp only [z80_40_0, z80_40_1, z80_48_0, z80_48_1, z80_1, z80_3, z80_4, z80_7, z80_10, z80_13, z80_14, z80_15, z80_16, z80_17, z80_18, z80_19, z80_20, z80_21, z80_22, z80_23, z80_26, z80_27, z80_28, z80_31, z80_32, z80_33, z80_34, z80_35, z80_36, z80_39, z80_40, z80_41, z80_44, z80_47, z80_48, sm_cti, sm_ctr, sm_ctn, sm_nbi, Option.toList_some, Option.toList_none, List.cons_append, List.nil_append, ne_eq, reduceCtorEq, not_false_eq_true, Nat.reduceLeDiff, kc34, kc80, kc82, rf80_1, rf80_2, h7, e0, hx, h1, h2, ec, b0, y_inN (show k < 12 by omega) (by decide), nI_clamp (show k < 2 ^ 31 by omega), if_true, if_false, not_true_eq_false, not_false_eq_true, and_true, true_and, and_false, false_and, and_self, or_true, true_or, or_false, false_or, reduceIte, iff_self, Int32.add_zero, y_10, Classical.not_not]
theorem c_allClash {I : sm_I} {c : Nat → Int32} (hD : D ≤ 12) (h7 : I 34 7 = nI D) (hc : ∀ j, j < D → I 82 j = c j) (s : Int32) (d n : Nat) (J : sm_J) (K : Option Value → sm_H → Prop) :
    sm_Ok d 80 0 [.ref 80, .int s, .null, .null] [] (sm_SH n, I, J) K ↔ K (some (.int (bi (andb (gdb s c) D)))) (sm_SH n, I, J) := by
  rw [← c_ac_lp hD h7 hc s d n J K D 0 (by omega) rfl .null rfl, z80_0]
  simp only [z80_1, sm_cti, sm_ctr, sm_ctn, sm_nbi, Option.toList_some, Option.toList_none, List.cons_append, List.nil_append, ne_eq, reduceCtorEq, not_false_eq_true, Nat.reduceLeDiff, if_true, if_false, not_true_eq_false, not_false_eq_true, and_true, true_and, and_false, false_and, and_self, or_true, true_or, or_false, false_or, reduceIte, iff_self, Int32.add_zero, y_10, Classical.not_not]
  exact Iff.rfl
/-- the first of the largest -/
def crd (ok : Nat → Bool) : Nat → Nat
  | 0 => 0
  | s + 1 => if ok s = true ∧ pc (crd ok s) < pc s then s else crd ok s
theorem crd_s {ok : Nat → Bool} {s : Nat} : crd ok (s + 1) = if ok s = true ∧ pc (crd ok s) < pc s then s else crd ok s := rfl
theorem crd_le {ok : Nat → Bool} : ∀ s, crd ok s ≤ s
  | 0 => Nat.le_refl _
  | s + 1 => by
    have := crd_le (ok := ok) s
    rw [crd_s]
    split <;> omega
theorem crd_congr {ok ok' : Nat → Bool} : ∀ {n : Nat}, (∀ s, s < n → ok s = ok' s) → crd ok n = crd ok' n
  | 0, _ => rfl
  | n + 1, h => by rw [crd_s, crd_s, crd_congr (fun s hs => h s (by omega)), h n (by omega)]
def okc (O : Int32) (c : Nat → Int32) (D s : Nat) : Bool := decide (nI s &&& (O ^^^ (-1)) = 0) && andb (gdb (nI s) c) D
theorem p2_le (hD : D ≤ 12) : 2 ^ D ≤ 4096 := by
  have : 2 ^ D ≤ 2 ^ 12 := Nat.pow_le_pow_right (by decide) hD
  omega
theorem p2_pos (D : Nat) : 1 ≤ 2 ^ D := Nat.one_le_two_pow
theorem c_lc_lp {I : sm_I} {c : Nat → Int32} {O : Int32} (hD : D ≤ 12) (h7 : I 34 7 = nI D) (h4 : I 80 4 = O) (hc : ∀ j, j < D → I 82 j = c j) (d n : Nat) (J : sm_J) (K : Option Value → sm_H → Prop) : ∀ (w s : Nat), s + w = 2 ^ D →
    (sm_Ok (d + 1) 79 6 [.ref 80, .int (nI (crd (okc O c D) s)), .int (nI (pc (crd (okc O c D) s))), .int (nI s)] [] (sm_SH n, I, J) K ↔ K (some (.int (nI (crd (okc O c D) (2 ^ D))))) (sm_SH n, I, J))
  | 0, s, h => by
    have hs : s = 2 ^ D := by omega
    subst hs
    rw [z79_6]
    simp only [z79_1, z79_2, z79_3, z79_4, z79_5, z79_7, z79_8, z79_9, z79_12, z79_15, z79_16, z79_19, z79_20, z79_21, z79_24, z79_25, z79_26, z79_27, z79_30, z79_31, z79_34, z79_35, z79_38, z79_39, z79_40, z79_43, z79_46, z79_47, z79_48, z79_49, z79_52, z79_53, z79_56, z79_59, z79_60, sm_cti, sm_ctr, sm_ctn, sm_nbi, Option.toList_some, Option.toList_none, List.cons_append, List.nil_append, ne_eq, reduceCtorEq, not_false_eq_true, Nat.reduceLeDiff, kc34, kc80, rf80_1, h7, tb_p2 D (by omega), Int32.le_refl, if_true, if_false, not_true_eq_false, not_false_eq_true, and_true, true_and, and_false, false_and, and_self, or_true, true_or, or_false, false_or, reduceIte, iff_self, Int32.add_zero, y_10, Classical.not_not]
  | w + 1, s, h => by
    have hp := p2_le hD
    have hs : s < 4096 := by omega
    have hcl := crd_le (ok := okc O c D) s
    have e0 : ¬ nI (2 ^ D) ≤ nI s := nI_ge (by omega) (by omega)
    have pl := pc_le s
    have pl2 := pc_le (crd (okc O c D) s)
    rw [← c_lc_lp hD h7 h4 hc d n J K w (s + 1) (by omega), z79_6, crd_s]
    by_cases h1 : nI s &&& (O ^^^ (-1)) = 0
    · by_cases h2 : pc (crd (okc O c D) s) < pc s
      · have h2' : ¬ nI (pc s) ≤ nI (pc (crd (okc O c D) s)) := nI_ge h2 (by omega)
        by_cases h3 : andb (gdb (nI s) c) D = true
        · have hok : okc O c D s = true ∧ pc (crd (okc O c D) s) < pc s := by
            refine ⟨?_, h2⟩
            unfold okc
            rw [h3, decide_eq_true h1]
            rfl
          rw [if_pos hok]
          have b1 : (bi (andb (gdb (nI s) c) D) = 0) = False := by rw [h3]; decide
          simp only [z79_1, z79_2, z79_3, z79_4, z79_5, z79_7, z79_8, z79_9, z79_12, z79_15, z79_16, z79_19, z79_20, z79_21, z79_24, z79_25, z79_26, z79_27, z79_30, z79_31, z79_34, z79_35, z79_38, z79_39, z79_40, z79_43, z79_46, z79_47, z79_48, z79_49, z79_52, z79_53, z79_56, z79_59, z79_60, sm_cti, sm_ctr, sm_ctn, sm_nbi, Option.toList_some, Option.toList_none, List.cons_append, List.nil_append, ne_eq, reduceCtorEq, not_false_eq_true, Nat.reduceLeDiff, kc34, kc80, rc80, rf80_1, h7, h4, tb_p2 D (by omega), e0, h1, h2', y_bitCount hs, c_allClash hD h7 hc, b1, nI_1, if_true, if_false, not_true_eq_false, not_false_eq_true, and_true, true_and, and_false, false_and, and_self, or_true, true_or, or_false, false_or, reduceIte, iff_self, Int32.add_zero, y_10, Classical.not_not]
        · have h3' : andb (gdb (nI s) c) D = false := by
            cases hx : andb (gdb (nI s) c) D with
            | false => rfl
            | true => exact absurd hx h3
          have hok : ¬ (okc O c D s = true ∧ pc (crd (okc O c D) s) < pc s) := fun z => by
            have z1 := z.1
            unfold okc at z1
            rw [h3', Bool.and_false] at z1
            exact absurd z1 (by decide)
          rw [if_neg hok]
          have b1 : (bi (andb (gdb (nI s) c) D) = 0) = True := by rw [h3']; decide
          simp only [z79_1, z79_2, z79_3, z79_4, z79_5, z79_7, z79_8, z79_9, z79_12, z79_15, z79_16, z79_19, z79_20, z79_21, z79_24, z79_25, z79_26, z79_27, z79_30, z79_31, z79_34, z79_35, z79_38, z79_39, z79_40, z79_43, z79_46, z79_47, z79_48, z79_49, z79_52, z79_53, z79_56, z79_59, z79_60, sm_cti, sm_ctr, sm_ctn, sm_nbi, Option.toList_some, Option.toList_none, List.cons_append, List.nil_append, ne_eq, reduceCtorEq, not_false_eq_true, Nat.reduceLeDiff, kc34, kc80, rc80, rf80_1, h7, h4, tb_p2 D (by omega), e0, h1, h2', y_bitCount hs, c_allClash hD h7 hc, b1, nI_1, if_true, if_false, not_true_eq_false, not_false_eq_true, and_true, true_and, and_false, false_and, and_self, or_true, true_or, or_false, false_or, reduceIte, iff_self, Int32.add_zero, y_10, Classical.not_not]
      · have h2' : nI (pc s) ≤ nI (pc (crd (okc O c D) s)) := nI_le (by omega) (by omega)
        rw [if_neg (fun z => h2 z.2)]
        simp only [z79_1, z79_2, z79_3, z79_4, z79_5, z79_7, z79_8, z79_9, z79_12, z79_15, z79_16, z79_19, z79_20, z79_21, z79_24, z79_25, z79_26, z79_27, z79_30, z79_31, z79_34, z79_35, z79_38, z79_39, z79_40, z79_43, z79_46, z79_47, z79_48, z79_49, z79_52, z79_53, z79_56, z79_59, z79_60, sm_cti, sm_ctr, sm_ctn, sm_nbi, Option.toList_some, Option.toList_none, List.cons_append, List.nil_append, ne_eq, reduceCtorEq, not_false_eq_true, Nat.reduceLeDiff, kc34, kc80, rf80_1, h7, h4, tb_p2 D (by omega), e0, h1, h2', y_bitCount hs, nI_1, if_true, if_false, not_true_eq_false, not_false_eq_true, and_true, true_and, and_false, false_and, and_self, or_true, true_or, or_false, false_or, reduceIte, iff_self, Int32.add_zero, y_10, Classical.not_not]
    · have hok : ¬ (okc O c D s = true ∧ pc (crd (okc O c D) s) < pc s) := fun z => by
        have z1 := z.1
        unfold okc at z1
        rw [decide_eq_false h1, Bool.false_and] at z1
        exact absurd z1 (by decide)
      rw [if_neg hok]
      simp only [z79_1, z79_2, z79_3, z79_4, z79_5, z79_7, z79_8, z79_9, z79_12, z79_15, z79_16, z79_19, z79_20, z79_21, z79_24, z79_25, z79_26, z79_27, z79_30, z79_31, z79_34, z79_35, z79_38, z79_39, z79_40, z79_43, z79_46, z79_47, z79_48, z79_49, z79_52, z79_53, z79_56, z79_59, z79_60, sm_cti, sm_ctr, sm_ctn, sm_nbi, Option.toList_some, Option.toList_none, List.cons_append, List.nil_append, ne_eq, reduceCtorEq, not_false_eq_true, Nat.reduceLeDiff, kc34, kc80, rf80_1, h7, h4, tb_p2 D (by omega), e0, h1, nI_1, if_true, if_false, not_true_eq_false, not_false_eq_true, and_true, true_and, and_false, false_and, and_self, or_true, true_or, or_false, false_or, reduceIte, iff_self, Int32.add_zero, y_10, Classical.not_not]
theorem crd_1 (ok : Nat → Bool) : crd ok 1 = 0 := by
  rw [crd_s]
  split <;> rfl
theorem c_largest {I : sm_I} {c : Nat → Int32} {O : Int32} (hD : D ≤ 12) (h7 : I 34 7 = nI D) (h4 : I 80 4 = O) (hc : ∀ j, j < D → I 82 j = c j) (d n : Nat) (J : sm_J) (K : Option Value → sm_H → Prop) :
    sm_Ok (d + 1) 79 0 [.ref 80, .null, .null, .null] [] (sm_SH n, I, J) K ↔ K (some (.int (nI (crd (okc O c D) (2 ^ D))))) (sm_SH n, I, J) := by
  have hp := p2_pos D
  rw [← c_lc_lp hD h7 h4 hc d n J K (2 ^ D - 1) 1 (by omega), z79_0, crd_1]
  simp only [z79_1, z79_2, z79_3, z79_4, z79_5, sm_cti, sm_ctr, sm_ctn, sm_nbi, Option.toList_some, Option.toList_none, List.cons_append, List.nil_append, ne_eq, reduceCtorEq, not_false_eq_true, Nat.reduceLeDiff, if_true, if_false, not_true_eq_false, not_false_eq_true, and_true, true_and, and_false, false_and, and_self, or_true, true_or, or_false, false_or, reduceIte, iff_self, Int32.add_zero, y_10, Classical.not_not]
  exact Iff.rfl
end
