/-! both answer alike: paid, paidOff -/
section
variable {P D : Nat} {f a b : Nat → Nat} {lo : Option ((Nat → Nat) × Nat)}
/-- the first of k that is not so; -2 -/
def fno (ok : Nat → Bool) (w i : Nat) : Int32 := if lead ok w i < i + w then nI (lead ok w i) else -2
theorem fno_s (ok : Nat → Bool) (w i : Nat) : fno ok (w + 1) i = if ok i = true then fno ok w (i + 1) else nI i := by
  unfold fno
  rw [show lead ok (w + 1) i = if ok i = true then lead ok w (i + 1) else i from rfl]
  by_cases h : ok i = true
  · simp only [if_pos h, show i + 1 + w = i + (w + 1) by omega]
  · simp only [if_neg h, show i < i + (w + 1) by omega, if_true]
theorem fno_0 (ok : Nat → Bool) (i : Nat) : fno ok 0 i = -2 := by
  unfold fno
  rw [if_neg]
  unfold lead
  omega
def pzo (P D : Nat) (f a b : Nat → Nat) (lo : Option ((Nat → Nat) × Nat)) (el : Nat → Int32) (g : Nat → Nat) (i : Nat) : Bool := decide (pay P D f a b lo (rnt P D f a b lo (sl el) g i) (sl el i) = 0)
theorem c_fp_lp (hb : bdf P D f a b) {s t m : Nat} {el : Nat → Int32} {I : sm_I} {J : sm_J} (hR : rowb s t m el I J) (hF : cFo P D f a b I) (hL : cLw lo I) {g : Nat → Nat} (hg : bdg g) {k : Nat} (hk : k ≤ nso D m el) (x2 : Value) (d n : Nat) (K : Option Value → sm_H → Prop) : ∀ (w i : Nat), i + w = k → ∀ I1 : sm_I, (∀ x c, ¬ (x = 29 ∨ x = 30 ∨ (44 ≤ x ∧ x < 48)) → I1 x c = I x c) → cTa 44 (rnt P D f a b lo (sl el) g i) I1 →
    (∀ I', (∀ x c, ¬ (x = 29 ∨ x = 30 ∨ (44 ≤ x ∧ x < 48)) → I' x c = I x c) → K (some (.int (fno (pzo P D f a b lo el g) w i))) (sm_SH n, I', J)) →
    sm_Ok (d + 5) 141 24 [.ref 26, .int (nI s), x2, .int (nI k), .int (nI i)] [] (sm_SH n, I1, J) K
  | 0, i, hi, I1, f1, t1, hK => by
    have hi : i = k := by omega
    subst hi
    rw [fno_0] at hK
    rw [z141_24]
    simp only [z141_0, z141_1, z141_2, z141_3, z141_6, z141_9, z141_10, z141_11, z141_14, z141_15, z141_18, z141_21, z141_22, z141_26, z141_27, z141_30, z141_31, z141_34, z141_35, z141_38, z141_39, z141_40, z141_42, z141_45, z141_48, z141_51, z141_53, z141_54, z141_57, z141_60, z141_62, sm_cti, sm_ctr, sm_ctn, sm_nbi, Option.toList_some, Option.toList_none, List.cons_append, List.nil_append, ne_eq, reduceCtorEq, not_false_eq_true, Nat.reduceLeDiff, Int32.le_refl, if_true, if_false, not_true_eq_false, not_false_eq_true, and_true, true_and, and_false, false_and, and_self, or_true, true_or, or_false, false_or, reduceIte, iff_self, Int32.add_zero, y_10, Classical.not_not]
    exact hK I1 f1
  | w + 1, i, hi, I1, f1, t1, hK => by
    have hik : i < k := by omega
    have hn := nso_le D m el
    have hm := hR.2.1
    have hD12 := hb.2.1
    obtain ⟨o1, o2⟩ := nso_ok hb.2.1 (show i < nso D m el by omega)
    have R1 : rowb s t m el I1 J := rowb_f hR (fun x c hx => f1 x c (by omega))
    rw [fno_s] at hK
    rw [z141_24]
    simp only [z141_0, z141_1, z141_2, z141_3, z141_6, z141_9, z141_10, z141_11, z141_14, z141_15, z141_18, z141_21, z141_22, z141_26, z141_27, z141_30, z141_31, z141_34, z141_35, z141_38, z141_39, z141_40, z141_42, z141_45, z141_48, z141_51, z141_53, z141_54, z141_57, z141_60, z141_62, sm_cti, sm_ctr, sm_ctn, sm_nbi, Option.toList_some, Option.toList_none, List.cons_append, List.nil_append, ne_eq, reduceCtorEq, not_false_eq_true, Nat.reduceLeDiff, kc26, rc26, rc34, rf26_2, rf26_4, if_neg (nI_ge hik (show k < 2 ^ 31 by omega)), c_songAt R1 _ _ _ (show i < 60 by omega), if_true, if_false, not_true_eq_false, not_false_eq_true, and_true, true_and, and_false, false_and, and_self, or_true, true_or, or_false, false_or, reduceIte, iff_self, Int32.add_zero, y_10, Classical.not_not]
    rw [o2]
    refine c_pass hb (cFo_f hF (fun x c h1 h2 => f1 x c (by omega))) (cLw_f hL (fun x c h1 h2 => f1 x c (by omega))) (q := 44) (Or.inr (Or.inl rfl)) (rnt_bd hb _ hg i) t1 (by omega) d n J _ (fun I2 w2 t2 => ?_)
    have pl := (pay_le (P := P) (D := D) (f := f) (a := a) (b := b) lo (rnt P D f a b lo (sl el) g i) (sl el i)).1
    have e0 : (nI (pay P D f a b lo (rnt P D f a b lo (sl el) g i) (sl el i)) ≤ 0) = (pay P D f a b lo (rnt P D f a b lo (sl el) g i) (sl el i) = 0) := propext (Iff.trans (nI_leI (b := 0) (by omega) (by decide)) (by omega))
    have f2 : ∀ x c, ¬ (x = 29 ∨ x = 30 ∨ (44 ≤ x ∧ x < 48)) → I2 x c = I x c := fun x c hx => by rw [w2 x c (by omega), f1 x c hx]
    by_cases h0 : pay P D f a b lo (rnt P D f a b lo (sl el) g i) (sl el i) = 0
    · rw [if_pos (show pzo P D f a b lo el g i = true from decide_eq_true h0)] at hK
      simp only [z141_0, z141_1, z141_2, z141_3, z141_6, z141_9, z141_10, z141_11, z141_14, z141_15, z141_18, z141_21, z141_22, z141_26, z141_27, z141_30, z141_31, z141_34, z141_35, z141_38, z141_39, z141_40, z141_42, z141_45, z141_48, z141_51, z141_53, z141_54, z141_57, z141_60, z141_62, sm_cti, sm_ctr, sm_ctn, sm_nbi, Option.toList_some, Option.toList_none, List.cons_append, List.nil_append, ne_eq, reduceCtorEq, not_false_eq_true, Nat.reduceLeDiff, e0, if_pos h0, nI_1, if_true, if_false, not_true_eq_false, not_false_eq_true, and_true, true_and, and_false, false_and, and_self, or_true, true_or, or_false, false_or, reduceIte, iff_self, Int32.add_zero, y_10, Classical.not_not]
      exact c_fp_lp hb hR hF hL hg hk x2 d n K w (i + 1) (by omega) I2 f2 t2 hK
    · rw [if_neg (show ¬ pzo P D f a b lo el g i = true from fun z => h0 (of_decide_eq_true z))] at hK
      simp only [z141_0, z141_1, z141_2, z141_3, z141_6, z141_9, z141_10, z141_11, z141_14, z141_15, z141_18, z141_21, z141_22, z141_26, z141_27, z141_30, z141_31, z141_34, z141_35, z141_38, z141_39, z141_40, z141_42, z141_45, z141_48, z141_51, z141_53, z141_54, z141_57, z141_60, z141_62, sm_cti, sm_ctr, sm_ctn, sm_nbi, Option.toList_some, Option.toList_none, List.cons_append, List.nil_append, ne_eq, reduceCtorEq, not_false_eq_true, Nat.reduceLeDiff, e0, if_neg h0, if_true, if_false, not_true_eq_false, not_false_eq_true, and_true, true_and, and_false, false_and, and_self, or_true, true_or, or_false, false_or, reduceIte, iff_self, Int32.add_zero, y_10, Classical.not_not]
      exact hK I2 f2
theorem c_firstPaying (hb : bdf P D f a b) {s t m : Nat} {el : Nat → Int32} {I : sm_I} {J : sm_J} (hR : rowb s t m el I J) (hF : cFo P D f a b I) (hL : cLw lo I) (hT : cTa 40 f I) {nn : Nat} (hnn : nn ≤ 40) (d n : Nat) (K : Option Value → sm_H → Prop)
    (hK : ∀ I', (∀ x c, ¬ (x = 29 ∨ x = 30 ∨ (44 ≤ x ∧ x < 48)) → I' x c = I x c) → K (some (.int (fno (pzo P D f a b lo el f) (min nn (nso D m el)) 0))) (sm_SH n, I', J)) :
    sm_Ok (d + 5) 141 0 [.ref 26, .int (nI s), .int (nI nn), .null, .null] [] (sm_SH n, I, J) K := by
  have hn := nso_le D m el
  have hg : bdg f := fun k k1 k2 k3 => hb.2.2.1 k k2
  have e1 : (if nI (nso D m el) < nI nn then nI (nso D m el) else nI nn) = nI (min nn (nso D m el)) := nI_min (by omega) (by omega)
  simp only [z141_0, z141_1, z141_2, z141_3, z141_6, z141_9, z141_10, z141_11, z141_14, z141_15, z141_18, z141_21, z141_22, z141_26, z141_27, z141_30, z141_31, z141_34, z141_35, z141_38, z141_39, z141_40, z141_42, z141_45, z141_48, z141_51, z141_53, z141_54, z141_57, z141_60, z141_62, sm_cti, sm_ctr, sm_ctn, sm_nbi, Option.toList_some, Option.toList_none, List.cons_append, List.nil_append, ne_eq, reduceCtorEq, not_false_eq_true, Nat.reduceLeDiff, kc26, rc26, rc44, rf26_3, rf26_4, c_songsOn hR hF.2.1, e1, if_true, if_false, not_true_eq_false, not_false_eq_true, and_true, true_and, and_false, false_and, and_self, or_true, true_or, or_false, false_or, reduceIte, iff_self, Int32.add_zero, y_10, Classical.not_not]
  refine c_bec (q := 40) (r := 44) (Or.inl rfl) (Or.inr (Or.inl rfl)) (by decide) hT (d + 3) n J _ (fun I1 w1 t1 => ?_)
  simp only [z141_0, z141_1, z141_2, z141_3, z141_6, z141_9, z141_10, z141_11, z141_14, z141_15, z141_18, z141_21, z141_22, z141_26, z141_27, z141_30, z141_31, z141_34, z141_35, z141_38, z141_39, z141_40, z141_42, z141_45, z141_48, z141_51, z141_53, z141_54, z141_57, z141_60, z141_62, sm_cti, sm_ctr, sm_ctn, sm_nbi, Option.toList_some, Option.toList_none, List.cons_append, List.nil_append, ne_eq, reduceCtorEq, not_false_eq_true, Nat.reduceLeDiff, if_true, if_false, not_true_eq_false, not_false_eq_true, and_true, true_and, and_false, false_and, and_self, or_true, true_or, or_false, false_or, reduceIte, iff_self, Int32.add_zero, y_10, Classical.not_not]
  refine c_fp_lp hb hR hF hL hg (Nat.min_le_right _ _) _ d n K (min nn (nso D m el)) 0 (by omega) I1 (fun x c hx => w1 x c (by omega)) t1 hK
/-- the bits of those that are so -/
def bset (p : Nat → Bool) : Nat → Int32
  | 0 => 0
  | k + 1 => if p k = true then bset p k ||| ((1 : Int32) <<< (nI k &&& 31)) else bset p k
def zso (g : Nat → Nat) (e : Nat) : Bool := decide (g (40 + e) = 0)
theorem c_zero_lp (h12 : D ≤ 12) {I : sm_I} {J : sm_J} (hF : cFo P D f a b I) {g : Nat → Nat} (hg : bdg g) (hT : cTa 44 g I) (d n : Nat) (K : Option Value → sm_H → Prop) : ∀ (w e : Nat), e + w = D →
    (sm_Ok d 142 4 [.ref 26, .ref 44, .int (bset (zso g) e), .int (nI e)] [] (sm_SH n, I, J) K ↔ K (some (.int (bset (zso g) D))) (sm_SH n, I, J))
  | 0, e, he => by
    have he : e = D := by omega
    subst he
    rw [z142_4]
    simp only [z142_0, z142_1, z142_2, z142_3, z142_5, z142_6, z142_9, z142_12, z142_15, z142_16, z142_19, z142_20, z142_21, z142_24, z142_25, z142_26, z142_27, z142_28, z142_29, z142_30, z142_33, z142_36, z142_37, sm_cti, sm_ctr, sm_ctn, sm_nbi, Option.toList_some, Option.toList_none, List.cons_append, List.nil_append, ne_eq, reduceCtorEq, not_false_eq_true, Nat.reduceLeDiff, kc26, kc34, rf26_2, hF.2.1, Int32.le_refl, if_true, if_false, not_true_eq_false, not_false_eq_true, and_true, true_and, and_false, false_and, and_self, or_true, true_or, or_false, false_or, reduceIte, iff_self, Int32.add_zero, y_10, Classical.not_not]
  | w + 1, e, he => by
    have heD : e < D := by omega
    have ih := c_zero_lp (J := J) h12 hF hg hT d n K w (e + 1) (by omega)
    have g1 := hg (40 + e) (by omega) (by omega) (by omega)
    have t1 := top_le (40 + e)
    have e0 : (nI (g (40 + e)) = 0) = (g (40 + e) = 0) := propext (nI_eq (b := 0) (by omega) (by decide))
    rw [← ih, z142_4]
    simp only [z142_0, z142_1, z142_2, z142_3, z142_5, z142_6, z142_9, z142_12, z142_15, z142_16, z142_19, z142_20, z142_21, z142_24, z142_25, z142_26, z142_27, z142_28, z142_29, z142_30, z142_33, z142_36, z142_37, sm_cti, sm_ctr, sm_ctn, sm_nbi, Option.toList_some, Option.toList_none, List.cons_append, List.nil_append, ne_eq, reduceCtorEq, not_false_eq_true, Nat.reduceLeDiff, kc26, kc34, kc44, kc47, rf26_2, rf44_2, hF.2.1, if_neg (nI_ge heD (show D < 2 ^ 31 by omega)), hT.2.1 e (by omega), e0, y_inN (show e < 12 by omega) (by decide), nI_clamp (show e < 2 ^ 31 by omega), nI_1, if_true, if_false, not_true_eq_false, not_false_eq_true, and_true, true_and, and_false, false_and, and_self, or_true, true_or, or_false, false_or, reduceIte, iff_self, Int32.add_zero, y_10, Classical.not_not]
    rw [show bset (zso g) (e + 1) = if zso g e = true then bset (zso g) e ||| ((1 : Int32) <<< (nI e &&& 31)) else bset (zso g) e from rfl]
    by_cases h0 : g (40 + e) = 0
    · rw [if_pos (show zso g e = true from decide_eq_true h0)]
      simp only [h0, if_true, if_false, not_true_eq_false, not_false_eq_true, and_true, true_and, and_false, false_and, and_self, or_true, true_or, or_false, false_or, reduceIte, iff_self, Int32.add_zero, y_10, Classical.not_not]
    · rw [if_neg (show ¬ zso g e = true from fun z => h0 (of_decide_eq_true z))]
      simp only [h0, if_true, if_false, not_true_eq_false, not_false_eq_true, and_true, true_and, and_false, false_and, and_self, or_true, true_or, or_false, false_or, reduceIte, iff_self, Int32.add_zero, y_10, Classical.not_not]
theorem c_atZero (h12 : D ≤ 12) {I : sm_I} {J : sm_J} (hF : cFo P D f a b I) {g : Nat → Nat} (hg : bdg g) (hT : cTa 44 g I) (d n : Nat) (K : Option Value → sm_H → Prop) : sm_Ok d 142 0 [.ref 26, .ref 44, .null, .null] [] (sm_SH n, I, J) K ↔ K (some (.int (bset (zso g) D))) (sm_SH n, I, J) := by
  rw [← c_zero_lp (J := J) h12 hF hg hT d n K D 0 (by omega)]
  simp only [z142_0, z142_1, z142_2, z142_3, z142_5, z142_6, z142_9, z142_12, z142_15, z142_16, z142_19, z142_20, z142_21, z142_24, z142_25, z142_26, z142_27, z142_28, z142_29, z142_30, z142_33, z142_36, z142_37, sm_cti, sm_ctr, sm_ctn, sm_nbi, Option.toList_some, Option.toList_none, List.cons_append, List.nil_append, ne_eq, reduceCtorEq, not_false_eq_true, Nat.reduceLeDiff, bset, nI_0, if_true, if_false, not_true_eq_false, not_false_eq_true, and_true, true_and, and_false, false_and, and_self, or_true, true_or, or_false, false_or, reduceIte, iff_self, Int32.add_zero, y_10, Classical.not_not]
theorem m_zero_lp (h12 : D ≤ 12) {I : sm_I} {J : sm_J} (hD : I 103 7 = nI D) {g : Nat → Nat} (hg : bdg g) (hT : mTa P D g I) (x1 x2 x3 : Value) (x4 : Int32) (d n : Nat) (K : Option Value → sm_H → Prop) : ∀ (w e : Nat), e + w = D →
    (sm_Ok d 189 66 [.ref 103, x1, x2, x3, .int x4, .int (bset (zso g) e), .int (nI e)] [] (sm_SH n, I, J) K ↔ sm_Ok d 189 104 [.ref 103, x1, x2, x3, .int x4, .int (bset (zso g) D), .int (nI D)] [] (sm_SH n, I, J) K)
  | 0, e, he => by
    have he : e = D := by omega
    subst he
    rw [z189_66]
    simp only [z189_68, z189_69, z189_72, sm_cti, sm_ctr, sm_ctn, sm_nbi, Option.toList_some, Option.toList_none, List.cons_append, List.nil_append, ne_eq, reduceCtorEq, not_false_eq_true, Nat.reduceLeDiff, kc103, hD, Int32.le_refl, if_true, if_false, not_true_eq_false, not_false_eq_true, and_true, true_and, and_false, false_and, and_self, or_true, true_or, or_false, false_or, reduceIte, iff_self, Int32.add_zero, y_10, Classical.not_not]
  | w + 1, e, he => by
    have heD : e < D := by omega
    have ih := m_zero_lp (J := J) h12 hD hg hT x1 x2 x3 x4 d n K w (e + 1) (by omega)
    have g1 := hg (40 + e) (by omega) (by omega) (by omega)
    have t1 := top_le (40 + e)
    have e0 : (nI (g (40 + e)) = 0) = (g (40 + e) = 0) := propext (nI_eq (b := 0) (by omega) (by decide))
    rw [← ih, z189_66]
    simp only [z189_68, z189_69, z189_72, z189_75, z189_77, z189_78, z189_81, z189_83, z189_84, z189_87, z189_88, z189_90, z189_91, z189_94, z189_95, z189_96, z189_98, z189_101, sm_cti, sm_ctr, sm_ctn, sm_nbi, Option.toList_some, Option.toList_none, List.cons_append, List.nil_append, ne_eq, reduceCtorEq, not_false_eq_true, Nat.reduceLeDiff, kc103, kc115, rf103_22, hD, if_neg (nI_ge heD (show D < 2 ^ 31 by omega)), hT.2.1 e heD, e0, y_inN (show e < 12 by omega) (by decide), nI_clamp (show e < 2 ^ 31 by omega), nI_1, Int32.or_zero, if_true, if_false, not_true_eq_false, not_false_eq_true, and_true, true_and, and_false, false_and, and_self, or_true, true_or, or_false, false_or, reduceIte, iff_self, Int32.add_zero, y_10, Classical.not_not]
    rw [show bset (zso g) (e + 1) = if zso g e = true then bset (zso g) e ||| ((1 : Int32) <<< (nI e &&& 31)) else bset (zso g) e from rfl]
    by_cases h0 : g (40 + e) = 0
    · rw [if_pos (show zso g e = true from decide_eq_true h0)]
      simp only [h0, if_true, if_false, not_true_eq_false, not_false_eq_true, and_true, true_and, and_false, false_and, and_self, or_true, true_or, or_false, false_or, reduceIte, iff_self, Int32.add_zero, y_10, Classical.not_not]
    · rw [if_neg (show ¬ zso g e = true from fun z => h0 (of_decide_eq_true z))]
      simp only [h0, if_true, if_false, not_true_eq_false, not_false_eq_true, and_true, true_and, and_false, false_and, and_self, or_true, true_or, or_false, false_or, reduceIte, iff_self, Int32.add_zero, y_10, Classical.not_not]
theorem m_fp_lp (hb : bdf P D f a b) {s t m : Nat} {el : Nat → Int32} {I : sm_I} {J : sm_J} (hR : rowb s t m el I J) (hM : mFo P D f a b I) (hL : mLw lo I) {g : Nat → Nat} (hg : bdg g) {nn : Nat} (hnn : nn ≤ 40) (h26 : I 103 26 = nI (nso D m el)) (hs : ∀ j, j < nso D m el → I 116 j = el j) (x1 x3 : Value) (x4 x5 : Int32) (d n : Nat) (K : Option Value → sm_H → Prop) : ∀ (w i : Nat), i + w = min nn (nso D m el) → ∀ I1 : sm_I, (∀ x c, ¬ ((112 ≤ x ∧ x < 116) ∨ (x = 103 ∧ ((14 ≤ c ∧ c ≤ 18) ∨ c = 23 ∨ c = 24))) → I1 x c = I x c) → mTa P D (rnt P D f a b lo (sl el) g i) I1 →
    (∀ I', (∀ x c, ¬ ((112 ≤ x ∧ x < 116) ∨ (x = 103 ∧ ((14 ≤ c ∧ c ≤ 18) ∨ c = 23 ∨ c = 24))) → I' x c = I x c) → K (some (.int (fno (pzo P D f a b lo el g) w i))) (sm_SH n, I', J)) →
    sm_Ok (d + 49) 189 128 [.ref 103, x1, .int (nI nn), x3, .int x4, .int x5, .int (nI i)] [] (sm_SH n, I1, J) K
  | 0, i, hi, I1, f1, t1, hK => by
    have hn := nso_le D m el
    have e26 : I1 103 26 = nI (nso D m el) := by rw [f1 _ _ (by omega), h26]
    rw [fno_0] at hK
    have fin := hK I1 f1
    rw [z189_128]
    by_cases h1 : nn ≤ i
    · have e1 : nI nn ≤ nI i := nI_le h1 (by omega)
      simp only [z189_130, z189_131, z189_170, z189_172, sm_cti, sm_ctr, sm_ctn, sm_nbi, Option.toList_some, Option.toList_none, List.cons_append, List.nil_append, ne_eq, reduceCtorEq, not_false_eq_true, Nat.reduceLeDiff, e1, if_true, if_false, not_true_eq_false, not_false_eq_true, and_true, true_and, and_false, false_and, and_self, or_true, true_or, or_false, false_or, reduceIte, iff_self, Int32.add_zero, y_10, Classical.not_not]
      exact fin
    · have e1 : ¬ nI nn ≤ nI i := nI_ge (by omega) (by omega)
      have e2 : nI (nso D m el) ≤ nI i := nI_le (by omega) (by omega)
      simp only [z189_130, z189_131, z189_134, z189_136, z189_137, z189_140, z189_170, z189_172, sm_cti, sm_ctr, sm_ctn, sm_nbi, Option.toList_some, Option.toList_none, List.cons_append, List.nil_append, ne_eq, reduceCtorEq, not_false_eq_true, Nat.reduceLeDiff, kc103, e1, e26, e2, if_true, if_false, not_true_eq_false, not_false_eq_true, and_true, true_and, and_false, false_and, and_self, or_true, true_or, or_false, false_or, reduceIte, iff_self, Int32.add_zero, y_10, Classical.not_not]
      exact fin
  | w + 1, i, hi, I1, f1, t1, hK => by
    have hn := nso_le D m el
    obtain ⟨o1, o2⟩ := nso_ok hb.2.1 (show i < nso D m el by omega)
    have e26 : I1 103 26 = nI (nso D m el) := by rw [f1 _ _ (by omega), h26]
    have es : I1 116 i = nI (sl el i) := by rw [f1 _ _ (by omega), hs i (by omega), ← o2]
    have e1 : ¬ nI nn ≤ nI i := nI_ge (by omega) (by omega)
    have e2 : ¬ nI (nso D m el) ≤ nI i := nI_ge (by omega) (by omega)
    rw [fno_s] at hK
    rw [z189_128]
    simp only [z189_130, z189_131, z189_134, z189_136, z189_137, z189_140, z189_143, z189_144, z189_145, z189_148, z189_150, z189_151, sm_cti, sm_ctr, sm_ctn, sm_nbi, Option.toList_some, Option.toList_none, List.cons_append, List.nil_append, ne_eq, reduceCtorEq, not_false_eq_true, Nat.reduceLeDiff, kc103, kc116, rc103, rf103_25, e1, e26, e2, es, y_inN (show i < 40 by omega) (by decide), nI_clamp (show i < 2 ^ 31 by omega), if_true, if_false, not_true_eq_false, not_false_eq_true, and_true, true_and, and_false, false_and, and_self, or_true, true_or, or_false, false_or, reduceIte, iff_self, Int32.add_zero, y_10, Classical.not_not]
    refine m_pass hb (mFo_f hM (fun x c hx => f1 x c (by omega))) (mLw_f hL (fun x c hx => f1 x c (by omega))) (rnt_bd hb _ hg i) t1 o1 d n J _ (fun I2 w2 t2 p2 => ?_)
    have pl := (pay_le (P := P) (D := D) (f := f) (a := a) (b := b) lo (rnt P D f a b lo (sl el) g i) (sl el i)).1
    have e0 : (nI (pay P D f a b lo (rnt P D f a b lo (sl el) g i) (sl el i)) ≤ 0) = (pay P D f a b lo (rnt P D f a b lo (sl el) g i) (sl el i) = 0) := propext (Iff.trans (nI_leI (b := 0) (by omega) (by decide)) (by omega))
    have f2 : ∀ x c, ¬ ((112 ≤ x ∧ x < 116) ∨ (x = 103 ∧ ((14 ≤ c ∧ c ≤ 18) ∨ c = 23 ∨ c = 24))) → I2 x c = I x c := fun x c hx => by rw [w2 x c (by omega), f1 x c hx]
    by_cases h0 : pay P D f a b lo (rnt P D f a b lo (sl el) g i) (sl el i) = 0
    · rw [if_pos (show pzo P D f a b lo el g i = true from decide_eq_true h0)] at hK
      simp only [z189_154, z189_155, z189_158, z189_164, z189_167, sm_cti, sm_ctr, sm_ctn, sm_nbi, Option.toList_some, Option.toList_none, List.cons_append, List.nil_append, ne_eq, reduceCtorEq, not_false_eq_true, Nat.reduceLeDiff, kc103, p2, e0, if_pos h0, nI_1, if_true, if_false, not_true_eq_false, not_false_eq_true, and_true, true_and, and_false, false_and, and_self, or_true, true_or, or_false, false_or, reduceIte, iff_self, Int32.add_zero, y_10, Classical.not_not]
      exact m_fp_lp hb hR hM hL hg hnn h26 hs x1 x3 x4 x5 d n K w (i + 1) (by omega) I2 f2 t2 hK
    · rw [if_neg (show ¬ pzo P D f a b lo el g i = true from fun z => h0 (of_decide_eq_true z))] at hK
      simp only [z189_154, z189_155, z189_158, z189_161, z189_163, sm_cti, sm_ctr, sm_ctn, sm_nbi, Option.toList_some, Option.toList_none, List.cons_append, List.nil_append, ne_eq, reduceCtorEq, not_false_eq_true, Nat.reduceLeDiff, kc103, p2, e0, if_neg h0, if_true, if_false, not_true_eq_false, not_false_eq_true, and_true, true_and, and_false, false_and, and_self, or_true, true_or, or_false, false_or, reduceIte, iff_self, Int32.add_zero, y_10, Classical.not_not]
      exact hK I2 f2
end
