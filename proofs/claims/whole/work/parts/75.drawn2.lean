/-! both answer alike: drawn -/
theorem neg_div {x : Int32} (h : x < 0) : x / 100 < 1 := by
  rw [Int32.lt_iff_toInt_lt, Int32.toInt_div_of_ne_right _ _ (by decide)]
  rw [Int32.lt_iff_toInt_lt] at h
  have h0 : (0 : Int32).toInt = 0 := by decide
  have h1 : (1 : Int32).toInt = 1 := by decide
  have h100 : (100 : Int32).toInt = 100 := by decide
  rw [h0] at h
  rw [h1, h100]
  have e : x.toInt = -(-x.toInt) := by omega
  rw [e, Int.neg_tdiv]
  have : 0 ≤ (-x.toInt).tdiv 100 := Int.tdiv_nonneg (by omega) (by decide)
  omega
section
variable {P D : Nat} {f a b : Nat → Nat} {lo : Option ((Nat → Nat) × Nat)}
def drz (E : Nat) (s : Int32) : Nat → Int32
  | 0 => s
  | i + 1 => zq (drz E s i) E
def drp (P D : Nat) (f a b : Nat → Nat) (lo : Option ((Nat → Nat) × Nat)) (E : Nat) (s : Int32) : Nat → Nat
  | 0 => 0
  | i + 1 => drp P D f a b lo E s i + rps P D f a b lo (zsl D f b (drz E s i)) f E
def dru (P D : Nat) (f a b : Nat → Nat) (lo : Option ((Nat → Nat) × Nat)) (E : Nat) (s : Int32) (oo : Option Nat) : Nat → Nat
  | 0 => 0
  | i + 1 => dru P D f a b lo E s oo i + (match oo with
    | none => 0
    | some o => rnt P D f a b lo (zsl D f b (drz E s i)) f E (24 + o))
def oov (oo : Option Nat) : Int32 := match oo with
  | none => -1
  | some o => nI o
def drv (P D : Nat) (f a b : Nat → Nat) (lo : Option ((Nat → Nat) × Nat)) (E : Nat) (s : Int32) (oo : Option Nat) (Y : Nat) : Int32 := match oo with
  | none => nI (drp P D f a b lo E s Y)
  | some _ => nI (dru P D f a b lo E s oo Y)
theorem c_dr_out (hb : bdf P D f a b) {I : sm_I} {J : sm_J} (hF : cFo P D f a b I) (hL : cLw lo I) (hT : cTa 40 f I) (s : Int32) (oo : Option Nat) (hoo : ∀ o, oo = some o → o < P) (x1 x2 : Int32) (Y E : Nat) (hE : E ≤ 40) (hY : Y ≤ 30) (d n : Nat) (K : Option Value → sm_H → Prop) : ∀ (w i : Nat), i + w = Y → ∀ (I1 : sm_I) (x10 : Value), (∀ x c, ¬ (x = 29 ∨ x = 30 ∨ (44 ≤ x ∧ x < 48)) → I1 x c = I x c) →
    (∀ I', (∀ x c, ¬ (x = 29 ∨ x = 30 ∨ (44 ≤ x ∧ x < 48)) → I' x c = I x c) → K (some (.int (drv P D f a b lo E s oo Y))) (sm_SH n, I', J)) →
    sm_Ok (d + 5) 107 68 [.ref 26, .int x1, .int x2, .int (oov oo), .int (nI Y), .int (nI E), .int (drz E s i), .int (nI (drp P D f a b lo E s i)), .int (nI (dru P D f a b lo E s oo i)), .int (nI i), x10] [] (sm_SH n, I1, J) K
  | 0, i, hi, I1, x10, f1, hK => by
    have hi : i = Y := by omega
    subst hi
    have fin := hK I1 f1
    rw [z107_68]
    match oo, hoo, fin with
    | none, hoo, fin =>
      simp only [z107_0, z107_1, z107_3, z107_4, z107_6, z107_7, z107_9, z107_10, z107_12, z107_14, z107_15, z107_18, z107_20, z107_22, z107_25, z107_27, z107_28, z107_31, z107_33, z107_35, z107_38, z107_39, z107_40, z107_43, z107_44, z107_47, z107_48, z107_51, z107_54, z107_55, z107_56, z107_57, z107_59, z107_60, z107_62, z107_63, z107_65, z107_66, z107_70, z107_72, z107_75, z107_76, z107_79, z107_80, z107_83, z107_86, z107_87, z107_91, z107_93, z107_96, z107_98, z107_101, z107_102, z107_105, z107_106, z107_108, z107_110, z107_111, z107_114, z107_115, z107_118, z107_119, z107_121, z107_124, z107_127, z107_128, z107_130, z107_133, z107_136, z107_138, z107_139, z107_140, z107_143, z107_144, z107_147, z107_148, z107_151, z107_154, z107_155, z107_156, z107_157, z107_159, z107_162, z107_165, z107_166, z107_167, z107_170, z107_172, z107_175, z107_177, sm_cti, sm_ctr, sm_ctn, sm_nbi, Option.toList_some, Option.toList_none, List.cons_append, List.nil_append, ne_eq, reduceCtorEq, not_false_eq_true, Nat.reduceLeDiff, Int32.le_refl, oov, if_true, if_false, not_true_eq_false, not_false_eq_true, and_true, true_and, and_false, false_and, and_self, or_true, true_or, or_false, false_or, reduceIte, iff_self, Int32.add_zero, y_10, Classical.not_not]
      exact fin
    | some o, hoo, fin =>
      have h8 := hb.1
      have ho := hoo o rfl
      have nm1 := y_nm1 (t := o) (by omega)
      simp only [z107_0, z107_1, z107_3, z107_4, z107_6, z107_7, z107_9, z107_10, z107_12, z107_14, z107_15, z107_18, z107_20, z107_22, z107_25, z107_27, z107_28, z107_31, z107_33, z107_35, z107_38, z107_39, z107_40, z107_43, z107_44, z107_47, z107_48, z107_51, z107_54, z107_55, z107_56, z107_57, z107_59, z107_60, z107_62, z107_63, z107_65, z107_66, z107_70, z107_72, z107_75, z107_76, z107_79, z107_80, z107_83, z107_86, z107_87, z107_91, z107_93, z107_96, z107_98, z107_101, z107_102, z107_105, z107_106, z107_108, z107_110, z107_111, z107_114, z107_115, z107_118, z107_119, z107_121, z107_124, z107_127, z107_128, z107_130, z107_133, z107_136, z107_138, z107_139, z107_140, z107_143, z107_144, z107_147, z107_148, z107_151, z107_154, z107_155, z107_156, z107_157, z107_159, z107_162, z107_165, z107_166, z107_167, z107_170, z107_172, z107_175, z107_177, sm_cti, sm_ctr, sm_ctn, sm_nbi, Option.toList_some, Option.toList_none, List.cons_append, List.nil_append, ne_eq, reduceCtorEq, not_false_eq_true, Nat.reduceLeDiff, Int32.le_refl, oov, nm1, if_true, if_false, not_true_eq_false, not_false_eq_true, and_true, true_and, and_false, false_and, and_self, or_true, true_or, or_false, false_or, reduceIte, iff_self, Int32.add_zero, y_10, Classical.not_not]
      exact fin
  | w + 1, i, hi, I1, x10, f1, hK => by
    have hiY : i < Y := by omega
    have hg : bdg f := fun k k1 k2 k3 => hb.2.2.1 k k2
    have h8 := hb.1
    rw [z107_68]
    simp only [z107_70, z107_72, z107_75, z107_76, z107_79, z107_80, z107_83, sm_cti, sm_ctr, sm_ctn, sm_nbi, Option.toList_some, Option.toList_none, List.cons_append, List.nil_append, ne_eq, reduceCtorEq, not_false_eq_true, Nat.reduceLeDiff, kc26, rc44, rf26_3, rf26_4, if_neg (nI_ge hiY (show Y < 2 ^ 31 by omega)), if_true, if_false, not_true_eq_false, not_false_eq_true, and_true, true_and, and_false, false_and, and_self, or_true, true_or, or_false, false_or, reduceIte, iff_self, Int32.add_zero, y_10, Classical.not_not]
    refine c_bec (q := 40) (r := 44) (Or.inl rfl) (Or.inr (Or.inl rfl)) (by decide) (cTa_f hT (fun x c h1 h2 => f1 x c (by omega))) (d + 3) n J _ (fun I2 w2 t2 => ?_)
    simp only [z107_86, z107_87, sm_cti, sm_ctr, sm_ctn, sm_nbi, Option.toList_some, Option.toList_none, List.cons_append, List.nil_append, ne_eq, reduceCtorEq, not_false_eq_true, Nat.reduceLeDiff, if_true, if_false, not_true_eq_false, not_false_eq_true, and_true, true_and, and_false, false_and, and_self, or_true, true_or, or_false, false_or, reduceIte, iff_self, Int32.add_zero, y_10, Classical.not_not]
    have f2 : ∀ x c, ¬ (x = 29 ∨ x = 30 ∨ (44 ≤ x ∧ x < 48)) → I2 x c = I x c := fun x c hx => by rw [w2 x c (by omega), f1 x c hx]
    have lp := c_dr_in (J := J) hb hF hL hg (drz E s i) x1 x2 (oov oo) (nI Y) (nI (dru P D f a b lo E s oo i)) (nI i) (drp P D f a b lo E s i) E hE d n K E 0 (by omega) I2 f2 t2
    refine lp (fun I3 f3 t3 => ?_)
    have next := c_dr_out (J := J) hb hF hL hT s oo hoo x1 x2 Y E hE hY d n K w (i + 1) (by omega) I3 (.int (nI E)) f3 hK
    match oo, hoo, next with
    | none, hoo, next =>
      simp only [z107_136, z107_138, z107_139, z107_140, z107_143, z107_144, z107_156, z107_157, z107_159, z107_162, sm_cti, sm_ctr, sm_ctn, sm_nbi, Option.toList_some, Option.toList_none, List.cons_append, List.nil_append, ne_eq, reduceCtorEq, not_false_eq_true, Nat.reduceLeDiff, oov, nI_1, if_true, if_false, not_true_eq_false, not_false_eq_true, and_true, true_and, and_false, false_and, and_self, or_true, true_or, or_false, false_or, reduceIte, iff_self, Int32.add_zero, y_10, Classical.not_not] at next ⊢
      exact next
    | some o, hoo, next =>
      have ho := hoo o rfl
      have nm1 := y_nm1 (t := o) (by omega)
      simp only [z107_136, z107_138, z107_139, z107_140, z107_147, z107_148, z107_151, z107_154, z107_155, z107_156, z107_157, z107_159, z107_162, sm_cti, sm_ctr, sm_ctn, sm_nbi, Option.toList_some, Option.toList_none, List.cons_append, List.nil_append, ne_eq, reduceCtorEq, not_false_eq_true, Nat.reduceLeDiff, kc26, kc44, kc45, rf26_4, rf44_0, oov, nm1, (t3.1 o (by omega)).1, y_inN (show o < 8 by omega) (by decide), nI_clamp (show o < 2 ^ 31 by omega), nI_add, nI_1, if_true, if_false, not_true_eq_false, not_false_eq_true, and_true, true_and, and_false, false_and, and_self, or_true, true_or, or_false, false_or, reduceIte, iff_self, Int32.add_zero, y_10, Classical.not_not] at next ⊢
      exact next
theorem m_dr_out (hb : bdf P D f a b) {I : sm_I} {J : sm_J} (hM : mFo P D f a b I) (hL : mLw lo I) (s : Int32) (oo : Option Nat) (hoo : ∀ o, oo = some o → o < P) (x1 nm : Int32) (Y E : Nat) (hE : E ≤ 40) (hY : Y ≤ 30) (hnm : nm - nm / 100 * 100 = nI E) (hny : nm / 100 = nI Y) (d n : Nat) (K : Option Value → sm_H → Prop) : ∀ (w i : Nat), i + w = Y → ∀ (I1 : sm_I) (x8 x9 : Value), (∀ x c, ¬ ((112 ≤ x ∧ x < 116) ∨ (x = 103 ∧ ((14 ≤ c ∧ c ≤ 18) ∨ c = 23 ∨ c = 24))) → I1 x c = I x c) →
    (∀ I', (∀ x c, ¬ ((112 ≤ x ∧ x < 116) ∨ (x = 103 ∧ ((14 ≤ c ∧ c ≤ 18) ∨ c = 23 ∨ c = 24))) → I' x c = I x c) → K (some (.int (drv P D f a b lo E s oo Y))) (sm_SH n, I', J)) →
    sm_Ok (d + 49) 212 62 [.ref 103, .int x1, .int nm, .int (oov oo), .int (drz E s i), .int (nI (drp P D f a b lo E s i)), .int (nI (dru P D f a b lo E s oo i)), .int (nI i), x8, x9] [] (sm_SH n, I1, J) K
  | 0, i, hi, I1, x8, x9, f1, hK => by
    have hi : i = Y := by omega
    subst hi
    have fin := hK I1 f1
    have t100 : ¬ (100 : Int32) = 0 := by decide
    rw [z212_62]
    match oo, hoo, fin with
    | none, hoo, fin =>
      have m1 : ¬ (0 : Int32) ≤ -1 := by decide
      simp only [z212_64, z212_65, z212_67, z212_68, z212_207, z212_208, z212_211, z212_213, z212_216, z212_218, sm_cti, sm_ctr, sm_ctn, sm_nbi, Option.toList_some, Option.toList_none, List.cons_append, List.nil_append, ne_eq, reduceCtorEq, not_false_eq_true, Nat.reduceLeDiff, t100, hny, Int32.le_refl, oov, m1, if_true, if_false, not_true_eq_false, not_false_eq_true, and_true, true_and, and_false, false_and, and_self, or_true, true_or, or_false, false_or, reduceIte, iff_self, Int32.add_zero, y_10, Classical.not_not]
      exact fin
    | some o, hoo, fin =>
      have h8 := hb.1
      have ho := hoo o rfl
      have n0 : (0 : Int32) ≤ nI o := nI_pos' (by omega)
      simp only [z212_64, z212_65, z212_67, z212_68, z212_207, z212_208, z212_211, z212_213, z212_216, z212_218, sm_cti, sm_ctr, sm_ctn, sm_nbi, Option.toList_some, Option.toList_none, List.cons_append, List.nil_append, ne_eq, reduceCtorEq, not_false_eq_true, Nat.reduceLeDiff, t100, hny, Int32.le_refl, oov, n0, if_true, if_false, not_true_eq_false, not_false_eq_true, and_true, true_and, and_false, false_and, and_self, or_true, true_or, or_false, false_or, reduceIte, iff_self, Int32.add_zero, y_10, Classical.not_not]
      exact fin
  | w + 1, i, hi, I1, x8, x9, f1, hK => by
    have hiY : i < Y := by omega
    have hg : bdg f := fun k k1 k2 k3 => hb.2.2.1 k k2
    have h8 := hb.1
    have t100 : ¬ (100 : Int32) = 0 := by decide
    have mF1 := mFo_f hM (I' := I1) (fun x c hx => f1 x c (by omega))
    rw [z212_62]
    simp only [z212_64, z212_65, z212_67, z212_68, z212_71, z212_72, sm_cti, sm_ctr, sm_ctn, sm_nbi, Option.toList_some, Option.toList_none, List.cons_append, List.nil_append, ne_eq, reduceCtorEq, not_false_eq_true, Nat.reduceLeDiff, rc103, t100, hny, if_neg (nI_ge hiY (show Y < 2 ^ 31 by omega)), if_true, if_false, not_true_eq_false, not_false_eq_true, and_true, true_and, and_false, false_and, and_self, or_true, true_or, or_false, false_or, reduceIte, iff_self, Int32.add_zero, y_10, Classical.not_not]
    refine m_begins hb mF1 _ n J _ (fun I2 w2 t2 => ?_)
    simp only [z212_75, z212_76, sm_cti, sm_ctr, sm_ctn, sm_nbi, Option.toList_some, Option.toList_none, List.cons_append, List.nil_append, ne_eq, reduceCtorEq, not_false_eq_true, Nat.reduceLeDiff, if_true, if_false, not_true_eq_false, not_false_eq_true, and_true, true_and, and_false, false_and, and_self, or_true, true_or, or_false, false_or, reduceIte, iff_self, Int32.add_zero, y_10, Classical.not_not]
    have f2 : ∀ x c, ¬ ((112 ≤ x ∧ x < 116) ∨ (x = 103 ∧ ((14 ≤ c ∧ c ≤ 18) ∨ c = 23 ∨ c = 24))) → I2 x c = I x c := fun x c hx => by rw [w2 x c (by omega), f1 x c hx]
    have lp := m_dr_in (J := J) hb hM hL hg (drz E s i) x1 nm (oov oo) (nI (dru P D f a b lo E s oo i)) (nI i) (drp P D f a b lo E s i) E hE hnm d n K E 0 (by omega) I2 x9 f2 t2
    refine lp (fun I3 y9 f3 t3 => ?_)
    have next := m_dr_out (J := J) hb hM hL s oo hoo x1 nm Y E hE hY hnm hny d n K w (i + 1) (by omega) I3 (.int (nI E)) y9 f3 hK
    match oo, hoo, next with
    | none, hoo, next =>
      have m1 : (-1 : Int32) < 0 := by decide
      simp only [z212_182, z212_184, z212_185, z212_197, z212_198, z212_199, z212_201, z212_204, sm_cti, sm_ctr, sm_ctn, sm_nbi, Option.toList_some, Option.toList_none, List.cons_append, List.nil_append, ne_eq, reduceCtorEq, not_false_eq_true, Nat.reduceLeDiff, oov, m1, nI_1, if_true, if_false, not_true_eq_false, not_false_eq_true, and_true, true_and, and_false, false_and, and_self, or_true, true_or, or_false, false_or, reduceIte, iff_self, Int32.add_zero, y_10, Classical.not_not] at next ⊢
      exact next
    | some o, hoo, next =>
      have ho := hoo o rfl
      have n0 : ¬ nI o < 0 := nI_pos (by omega)
      simp only [z212_182, z212_184, z212_185, z212_188, z212_189, z212_192, z212_193, z212_194, z212_198, z212_199, z212_201, z212_204, sm_cti, sm_ctr, sm_ctn, sm_nbi, Option.toList_some, Option.toList_none, List.cons_append, List.nil_append, ne_eq, reduceCtorEq, not_false_eq_true, Nat.reduceLeDiff, kc103, kc113, rf103_20, oov, n0, (t3.1 o ho).1, y_inN (show o < 8 by omega) (by decide), nI_clamp (show o < 2 ^ 31 by omega), nI_add, nI_1, if_true, if_false, not_true_eq_false, not_false_eq_true, and_true, true_and, and_false, false_and, and_self, or_true, true_or, or_false, false_or, reduceIte, iff_self, Int32.add_zero, y_10, Classical.not_not] at next ⊢
      exact next
end
theorem y_w30 (x : Int32) : ((1 : Int64) ≤ x.toInt64) = (1 ≤ x) := y_w1 x
theorem pw_drawn {n : Nat} {xs : Nat → Int32} {I : sm_I} {J : sm_J} (hI : Inv xs I J) (s nm q : Int32) : pw n I J 107 [.ref 26, .int s, .int nm, .int q, .null, .null, .null, .null, .null, .null, .null] 212 [.ref 103, .int s, .int nm, .int q, .null, .null, .null, .null, .null, .null] (fun I2 J2 => Inv xs I2 J2) := by
  obtain ⟨P, D, B, i1, i2, i3, i4, i5, i6, i7, i8⟩ := id hI
  obtain ⟨f, a, b, hb, cF, cT, mF, hz⟩ := fo_pure i2
  obtain ⟨lo, cl, ml⟩ := la_lo i5
  have h8 := hb.1
  have t100 : ¬ (100 : Int32) = 0 := by decide
  intro d K hK
  by_cases hG : (1 ≤ nm / 100 ∧ nm / 100 ≤ 30) ∧ (1 ≤ nm - nm / 100 * 100 ∧ nm - nm / 100 * 100 ≤ 40) ∧ (q = -1 ∨ (0 ≤ q ∧ q < nI P))
  · obtain ⟨g1, g2, g3⟩ := hG
    have h01 : (0 : Int32) ≤ 1 := by decide
    obtain ⟨Y, hY, eY⟩ := nI_of2 (M := 30) (n := 30) (by decide) (Int32.not_lt.mpr (Int32.le_trans h01 g1.1)) g1.2
    obtain ⟨E, hE, eE⟩ := nI_of2 (M := 40) (n := 40) (by decide) (Int32.not_lt.mpr (Int32.le_trans h01 g2.1)) g2.2
    have hn0 : ¬ nm < 0 := fun z => absurd (neg_div z) (Int32.not_lt.mpr g1.1)
    obtain ⟨oo, hoo, rfl⟩ : ∃ oo : Option Nat, (∀ o, oo = some o → o < P) ∧ q = oov oo := by
      rcases g3 with rfl | g3
      · exact ⟨none, (fun o h => by cases h), rfl⟩
      · obtain ⟨o, ho, rfl⟩ := y_idx (show P < 2 ^ 31 by omega) g3
        exact ⟨some o, fun o' h => by cases h; exact ho, rfl⟩
    have eE' : nm - nI Y * 100 = nI E := by rw [← eY]; exact eE
    have g1' := g1
    have g2' := g2
    rw [eY] at g1'
    rw [eE] at g2'
    have G1 : ¬ nI Y < 1 := Int32.not_lt.mpr g1'.1
    have G2 : ¬ 30 < nI Y := Int32.not_lt.mpr g1'.2
    have G3 : ¬ nI E < 1 := Int32.not_lt.mpr g2'.1
    have G4 : ¬ 40 < nI E := Int32.not_lt.mpr g2'.2
    have cls : sm_Ok (d + 200) 107 68 [.ref 26, .int s, .int nm, .int (oov oo), .int (nI Y), .int (nI E), .int s, .int 0, .int 0, .int 0, .null] [] (sm_SH n, I, J) K := by
      refine c_dr_out hb cF cl cT s oo hoo s nm Y E hE hY (d + 195) n K Y 0 (by omega) I .null (fun x c _ => rfl) (fun I1 w1 => ?_)
      refine hK _ I1 J (fun K2 h3 => ?_)
      have mF1 : mFo P D f a b I1 := mFo_f mF (fun x c hx => w1 x c (by omega))
      have ref : sm_Ok (d + 200) 212 62 [.ref 103, .int s, .int nm, .int (oov oo), .int s, .int 0, .int 0, .int 0, .null, .null] [] (sm_SH n, I1, J) K2 := m_dr_out hb mF1 (mLw_f ml (fun x c hx => w1 x c (by omega))) s oo hoo s nm Y E hE hY eE eY (d + 151) n K2 Y 0 (by omega) I1 .null .null (fun x c _ => rfl) (fun I2 w2 => h3 I2 J (Inv_0 hI (ag0 (fun x c hx => by rw [w2 x c (by omega), w1 x c (by omega)]))))
      rcases g3 with g3 | g3
      · simp only [z212_0, z212_1, z212_4, z212_5, z212_7, z212_8, z212_9, z212_10, z212_13, z212_16, z212_19, z212_20, z212_22, z212_23, z212_24, z212_25, z212_28, z212_31, z212_34, z212_35, z212_36, z212_39, z212_40, z212_41, z212_42, z212_45, z212_48, z212_49, z212_50, z212_51, z212_53, z212_54, z212_56, z212_57, z212_59, z212_60, z212_64, z212_65, z212_67, z212_68, z212_71, z212_72, z212_75, z212_76, z212_80, z212_81, z212_83, z212_84, z212_87, z212_89, z212_92, z212_93, z212_96, z212_97, z212_99, z212_100, z212_103, z212_106, z212_108, z212_111, z212_113, z212_115, z212_116, z212_117, z212_120, z212_121, z212_123, z212_124, z212_126, z212_128, z212_131, z212_133, z212_135, z212_136, z212_138, z212_139, z212_140, z212_143, z212_145, z212_146, z212_149, z212_151, z212_152, z212_153, z212_154, z212_157, z212_159, z212_162, z212_164, z212_167, z212_169, z212_170, z212_173, z212_174, z212_176, z212_179, z212_182, z212_184, z212_185, z212_188, z212_189, z212_192, z212_193, z212_194, z212_197, z212_198, z212_199, z212_201, z212_204, z212_207, z212_208, z212_211, z212_213, z212_216, z212_218, sm_cti, sm_ctr, sm_ctn, sm_nbi, Option.toList_some, Option.toList_none, List.cons_append, List.nil_append, ne_eq, reduceCtorEq, not_false_eq_true, Nat.reduceLeDiff, t100, hn0, m_within, y_w1, y_v30, y_v40, y_bit, eY, eE', g1', g2', g3, if_true, if_false, not_true_eq_false, not_false_eq_true, and_true, true_and, and_false, false_and, and_self, or_true, true_or, or_false, false_or, reduceIte, iff_self, Int32.add_zero, y_10, Classical.not_not] at ref ⊢
        exact ref
      · have nq : ¬ oov oo = -1 := fun z => by rw [z] at g3; exact absurd g3.1 (by decide)
        simp only [z212_0, z212_1, z212_4, z212_5, z212_7, z212_8, z212_9, z212_10, z212_13, z212_16, z212_19, z212_20, z212_22, z212_23, z212_24, z212_25, z212_28, z212_31, z212_34, z212_35, z212_36, z212_39, z212_40, z212_41, z212_42, z212_45, z212_48, z212_49, z212_50, z212_51, z212_53, z212_54, z212_56, z212_57, z212_59, z212_60, z212_64, z212_65, z212_67, z212_68, z212_71, z212_72, z212_75, z212_76, z212_80, z212_81, z212_83, z212_84, z212_87, z212_89, z212_92, z212_93, z212_96, z212_97, z212_99, z212_100, z212_103, z212_106, z212_108, z212_111, z212_113, z212_115, z212_116, z212_117, z212_120, z212_121, z212_123, z212_124, z212_126, z212_128, z212_131, z212_133, z212_135, z212_136, z212_138, z212_139, z212_140, z212_143, z212_145, z212_146, z212_149, z212_151, z212_152, z212_153, z212_154, z212_157, z212_159, z212_162, z212_164, z212_167, z212_169, z212_170, z212_173, z212_174, z212_176, z212_179, z212_182, z212_184, z212_185, z212_188, z212_189, z212_192, z212_193, z212_194, z212_197, z212_198, z212_199, z212_201, z212_204, z212_207, z212_208, z212_211, z212_213, z212_216, z212_218, sm_cti, sm_ctr, sm_ctn, sm_nbi, Option.toList_some, Option.toList_none, List.cons_append, List.nil_append, ne_eq, reduceCtorEq, not_false_eq_true, Nat.reduceLeDiff, rc103, t100, hn0, m_within, y_w1, y_v30, y_v40, y_bit, eY, eE', g1', g2', nq, m_isOneX (show P < 2 ^ 31 by omega) mF1.1, g3, if_true, if_false, not_true_eq_false, not_false_eq_true, and_true, true_and, and_false, false_and, and_self, or_true, true_or, or_false, false_or, reduceIte, iff_self, Int32.add_zero, y_10, Classical.not_not] at ref ⊢
        exact ref
    rcases g3 with g3 | g3
    · simp only [z107_0, z107_1, z107_3, z107_4, z107_6, z107_7, z107_9, z107_10, z107_12, z107_14, z107_15, z107_18, z107_20, z107_22, z107_25, z107_27, z107_28, z107_31, z107_33, z107_35, z107_38, z107_39, z107_40, z107_43, z107_44, z107_47, z107_48, z107_51, z107_54, z107_55, z107_56, z107_57, z107_59, z107_60, z107_62, z107_63, z107_65, z107_66, z107_70, z107_72, z107_75, z107_76, z107_79, z107_80, z107_83, z107_86, z107_87, z107_91, z107_93, z107_96, z107_98, z107_101, z107_102, z107_105, z107_106, z107_108, z107_110, z107_111, z107_114, z107_115, z107_118, z107_119, z107_121, z107_124, z107_127, z107_128, z107_130, z107_133, z107_136, z107_138, z107_139, z107_140, z107_143, z107_144, z107_147, z107_148, z107_151, z107_154, z107_155, z107_156, z107_157, z107_159, z107_162, z107_165, z107_166, z107_167, z107_170, z107_172, z107_175, z107_177, sm_cti, sm_ctr, sm_ctn, sm_nbi, Option.toList_some, Option.toList_none, List.cons_append, List.nil_append, ne_eq, reduceCtorEq, not_false_eq_true, Nat.reduceLeDiff, t100, eY, eE', G1, G2, G3, G4, g3, if_true, if_false, not_true_eq_false, not_false_eq_true, and_true, true_and, and_false, false_and, and_self, or_true, true_or, or_false, false_or, reduceIte, iff_self, Int32.add_zero, y_10, Classical.not_not] at cls ⊢
      exact cls
    · have nq : ¬ oov oo = -1 := fun z => by rw [z] at g3; exact absurd g3.1 (by decide)
      simp only [z107_0, z107_1, z107_3, z107_4, z107_6, z107_7, z107_9, z107_10, z107_12, z107_14, z107_15, z107_18, z107_20, z107_22, z107_25, z107_27, z107_28, z107_31, z107_33, z107_35, z107_38, z107_39, z107_40, z107_43, z107_44, z107_47, z107_48, z107_51, z107_54, z107_55, z107_56, z107_57, z107_59, z107_60, z107_62, z107_63, z107_65, z107_66, z107_70, z107_72, z107_75, z107_76, z107_79, z107_80, z107_83, z107_86, z107_87, z107_91, z107_93, z107_96, z107_98, z107_101, z107_102, z107_105, z107_106, z107_108, z107_110, z107_111, z107_114, z107_115, z107_118, z107_119, z107_121, z107_124, z107_127, z107_128, z107_130, z107_133, z107_136, z107_138, z107_139, z107_140, z107_143, z107_144, z107_147, z107_148, z107_151, z107_154, z107_155, z107_156, z107_157, z107_159, z107_162, z107_165, z107_166, z107_167, z107_170, z107_172, z107_175, z107_177, sm_cti, sm_ctr, sm_ctn, sm_nbi, Option.toList_some, Option.toList_none, List.cons_append, List.nil_append, ne_eq, reduceCtorEq, not_false_eq_true, Nat.reduceLeDiff, kc26, rc34, rf26_2, t100, eY, eE', G1, G2, G3, G4, nq, y_isOne, cF.1, g3, y_bit, if_true, if_false, not_true_eq_false, not_false_eq_true, and_true, true_and, and_false, false_and, and_self, or_true, true_or, or_false, false_or, reduceIte, iff_self, Int32.add_zero, y_10, Classical.not_not] at cls ⊢
      exact cls
  · have cB : ∀ K : Option Value → sm_H → Prop, K (some (.int (-1))) (sm_SH n, I, J) → sm_Ok (d + 200) 107 0 [.ref 26, .int s, .int nm, .int q, .null, .null, .null, .null, .null, .null, .null] [] (sm_SH n, I, J) K := by
      intro K h
      simp only [z107_0, z107_1, z107_3, z107_4, z107_6, z107_7, z107_9, z107_10, z107_12, z107_14, z107_15, z107_18, z107_20, z107_22, z107_25, z107_27, z107_28, z107_31, z107_33, z107_35, z107_38, z107_39, z107_40, z107_43, z107_44, z107_47, z107_48, z107_51, z107_54, z107_55, z107_56, z107_57, z107_59, z107_60, z107_62, z107_63, z107_65, z107_66, z107_70, z107_72, z107_75, z107_76, z107_79, z107_80, z107_83, z107_86, z107_87, z107_91, z107_93, z107_96, z107_98, z107_101, z107_102, z107_105, z107_106, z107_108, z107_110, z107_111, z107_114, z107_115, z107_118, z107_119, z107_121, z107_124, z107_127, z107_128, z107_130, z107_133, z107_136, z107_138, z107_139, z107_140, z107_143, z107_144, z107_147, z107_148, z107_151, z107_154, z107_155, z107_156, z107_157, z107_159, z107_162, z107_165, z107_166, z107_167, z107_170, z107_172, z107_175, z107_177, sm_cti, sm_ctr, sm_ctn, sm_nbi, Option.toList_some, Option.toList_none, List.cons_append, List.nil_append, ne_eq, reduceCtorEq, not_false_eq_true, Nat.reduceLeDiff, kc26, rc34, rf26_2, t100, y_isOne, cF.1, y_bit, y_lt, if_true, if_false, not_true_eq_false, not_false_eq_true, and_true, true_and, and_false, false_and, and_self, or_true, true_or, or_false, false_or, reduceIte, iff_self, Int32.add_zero, y_10, Classical.not_not]
      by_cases a1 : 1 ≤ nm / 100
      · by_cases a2 : nm / 100 ≤ 30
        · by_cases a3 : 1 ≤ nm - nm / 100 * 100
          · by_cases a4 : nm - nm / 100 * 100 ≤ 40
            · have a5 : ¬ q = -1 := fun z => hG ⟨⟨a1, a2⟩, ⟨a3, a4⟩, Or.inl z⟩
              have a6 : ¬ (0 ≤ q ∧ q < nI P) := fun z => hG ⟨⟨a1, a2⟩, ⟨a3, a4⟩, Or.inr z⟩
              simp only [y_lt] at a6
              simp only [a1, a2, a3, a4, a5, a6, if_true, if_false, not_true_eq_false, not_false_eq_true, and_true, true_and, and_false, false_and, and_self, or_true, true_or, or_false, false_or, reduceIte, iff_self, Int32.add_zero, y_10, Classical.not_not]
              exact h
            · simp only [a1, a2, a3, a4, if_true, if_false, not_true_eq_false, not_false_eq_true, and_true, true_and, and_false, false_and, and_self, or_true, true_or, or_false, false_or, reduceIte, iff_self, Int32.add_zero, y_10, Classical.not_not]
              exact h
          · simp only [a1, a2, a3, if_true, if_false, not_true_eq_false, not_false_eq_true, and_true, true_and, and_false, false_and, and_self, or_true, true_or, or_false, false_or, reduceIte, iff_self, Int32.add_zero, y_10, Classical.not_not]
            exact h
        · simp only [a1, a2, if_true, if_false, not_true_eq_false, not_false_eq_true, and_true, true_and, and_false, false_and, and_self, or_true, true_or, or_false, false_or, reduceIte, iff_self, Int32.add_zero, y_10, Classical.not_not]
          exact h
      · simp only [a1, if_true, if_false, not_true_eq_false, not_false_eq_true, and_true, true_and, and_false, false_and, and_self, or_true, true_or, or_false, false_or, reduceIte, iff_self, Int32.add_zero, y_10, Classical.not_not]
        exact h
    apply cB
    refine hK (-1) I J (fun K2 h3 => ?_)
    have fin := h3 I J hI
    simp only [z212_0, z212_1, z212_4, z212_5, z212_7, z212_8, z212_9, z212_10, z212_13, z212_16, z212_19, z212_20, z212_22, z212_23, z212_24, z212_25, z212_28, z212_31, z212_34, z212_35, z212_36, z212_39, z212_40, z212_41, z212_42, z212_45, z212_48, z212_49, z212_50, z212_51, z212_53, z212_54, z212_56, z212_57, z212_59, z212_60, z212_64, z212_65, z212_67, z212_68, z212_71, z212_72, z212_75, z212_76, z212_80, z212_81, z212_83, z212_84, z212_87, z212_89, z212_92, z212_93, z212_96, z212_97, z212_99, z212_100, z212_103, z212_106, z212_108, z212_111, z212_113, z212_115, z212_116, z212_117, z212_120, z212_121, z212_123, z212_124, z212_126, z212_128, z212_131, z212_133, z212_135, z212_136, z212_138, z212_139, z212_140, z212_143, z212_145, z212_146, z212_149, z212_151, z212_152, z212_153, z212_154, z212_157, z212_159, z212_162, z212_164, z212_167, z212_169, z212_170, z212_173, z212_174, z212_176, z212_179, z212_182, z212_184, z212_185, z212_188, z212_189, z212_192, z212_193, z212_194, z212_197, z212_198, z212_199, z212_201, z212_204, z212_207, z212_208, z212_211, z212_213, z212_216, z212_218, sm_cti, sm_ctr, sm_ctn, sm_nbi, Option.toList_some, Option.toList_none, List.cons_append, List.nil_append, ne_eq, reduceCtorEq, not_false_eq_true, Nat.reduceLeDiff, rc103, t100, m_within, y_w1, y_v30, y_v40, m_isOneX (show P < 2 ^ 31 by omega) mF.1, y_bit, if_true, if_false, not_true_eq_false, not_false_eq_true, and_true, true_and, and_false, false_and, and_self, or_true, true_or, or_false, false_or, reduceIte, iff_self, Int32.add_zero, y_10, Classical.not_not]
    by_cases a0 : nm < 0
    · simp only [a0, if_true, if_false, not_true_eq_false, not_false_eq_true, and_true, true_and, and_false, false_and, and_self, or_true, true_or, or_false, false_or, reduceIte, iff_self, Int32.add_zero, y_10, Classical.not_not]
      exact fin
    · by_cases a1 : 1 ≤ nm / 100 ∧ nm / 100 ≤ 30
      · by_cases a2 : 1 ≤ nm - nm / 100 * 100 ∧ nm - nm / 100 * 100 ≤ 40
        · have a5 : ¬ q = -1 := fun z => hG ⟨a1, a2, Or.inl z⟩
          have a6 : ¬ (0 ≤ q ∧ q < nI P) := fun z => hG ⟨a1, a2, Or.inr z⟩
          simp only [a0, a1, a2, a5, a6, if_true, if_false, not_true_eq_false, not_false_eq_true, and_true, true_and, and_false, false_and, and_self, or_true, true_or, or_false, false_or, reduceIte, iff_self, Int32.add_zero, y_10, Classical.not_not]
          exact fin
        · simp only [a0, a1, a2, if_true, if_false, not_true_eq_false, not_false_eq_true, and_true, true_and, and_false, false_and, and_self, or_true, true_or, or_false, false_or, reduceIte, iff_self, Int32.add_zero, y_10, Classical.not_not]
          exact fin
      · simp only [a0, a1, if_true, if_false, not_true_eq_false, not_false_eq_true, and_true, true_and, and_false, false_and, and_self, or_true, true_or, or_false, false_or, reduceIte, iff_self, Int32.add_zero, y_10, Classical.not_not]
        exact fin
