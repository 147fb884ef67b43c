/-! songs in thought -/
section
variable {P D : Nat} {f a b : Nat → Nat} {lo : Option ((Nat → Nat) × Nat)}
theorem c_takeOver {q r : Nat} (hq : tq q) (hr : tq r) (hne : q ≠ r) {p e : Nat} (hp : p ≤ 8) (he : e ≤ 12) {I : sm_I} (d n : Nat) (J : sm_J) (K : Option Value → sm_H → Prop)
    (hK : ∀ I', (∀ x c, ¬ (r ≤ x ∧ x < r + 4) → I' x c = I x c) → (∀ k, I' (r + 1) k = if k < p then I (q + 1) k else I (r + 1) k) → (∀ k, I' (r + 2) k = if k < p then I (q + 2) k else I (r + 2) k) → (∀ k, I' (r + 3) k = if k < e then I (q + 3) k else I (r + 3) k) → I' r 3 = I q 3 → K none (sm_SH n, I', J)) :
    sm_Ok d 64 0 [.ref r, .ref q, .int (nI p), .int (nI e)] [] (sm_SH n, I, J) K := by
  obtain ⟨k1, k2, k3, k4, k5, k6, k7⟩ := tq_k hq
  obtain ⟨l1, l2, l3, l4, l5, l6, l7⟩ := tq_k hr
  have hq' := hq
  have hr' := hr
  unfold tq at hq' hr'
  have c0 : (0 : Int32).toNatClampNeg = 0 := by decide
  have z0 : ¬ (0 : Int32) < 0 := by decide
  have g1 : 26 ≤ q + 1 := by omega
  have g2 : 26 ≤ q + 2 := by omega
  have g3 : 26 ≤ q + 3 := by omega
  have g4 : 26 ≤ r + 1 := by omega
  have g5 : 26 ≤ r + 2 := by omega
  have g6 : 26 ≤ r + 3 := by omega
  have p0 : 0 + p ≤ 8 := by omega
  have e0 : 0 + e ≤ 12 := by omega
  simp only [z64_0, z64_1, z64_4, z64_5, z64_6, z64_9, z64_10, z64_11, z64_14, z64_15, z64_18, z64_19, z64_20, z64_23, z64_24, z64_25, z64_28, z64_29, z64_32, z64_33, z64_34, z64_37, z64_38, z64_39, z64_42, z64_43, z64_44, z64_47, z64_50, sm_cti, sm_ctr, sm_ctn, sm_nbi, Option.toList_some, Option.toList_none, List.cons_append, List.nil_append, ne_eq, reduceCtorEq, not_false_eq_true, Nat.reduceLeDiff, k1, k2, k3, k4, k5, k6, k7, l1, l2, l3, l4, l5, l6, l7, c0, z0, g1, g2, g3, g4, g5, g6, p0, e0, nI_pos (show p < 2 ^ 31 by omega), nI_pos (show e < 2 ^ 31 by omega), nI_clamp (show p < 2 ^ 31 by omega), nI_clamp (show e < 2 ^ 31 by omega), or_true, true_or, if_true, if_false, not_true_eq_false, not_false_eq_true, and_true, true_and, and_false, false_and, and_self, or_true, true_or, or_false, false_or, reduceIte, iff_self, Int32.add_zero, y_10, Classical.not_not]
  have u : ∀ (I : sm_I) (s t n x c : Nat), ¬ x = t → sm_cI I s t 0 0 n x c = I x c := fun I s t n x c hx => by
    unfold sm_cI
    rw [if_neg hx]
  have v : ∀ (I : sm_I) (s t n c : Nat), sm_cI I s t 0 0 n t c = if c < n then I s c else I t c := fun I s t n c => by
    unfold sm_cI va_cpy
    rw [if_pos rfl]
    by_cases h : c < n
    · rw [if_pos h, if_pos ⟨Nat.zero_le _, by omega⟩, Nat.zero_add, Nat.sub_zero]
    · rw [if_neg h, if_neg (fun z => h (by omega))]
  refine hK _ (fun x c hx => ?_) (fun k => ?_) (fun k => ?_) (fun k => ?_) ?_
  · rw [uI_q _ _ (by omega), u _ _ _ _ _ _ (by omega), u _ _ _ _ _ _ (by omega), u _ _ _ _ _ _ (by omega)]
  · rw [uI_q _ _ (by omega), u _ _ _ _ _ _ (by omega), u _ _ _ _ _ _ (by omega), v]
  · rw [uI_q _ _ (by omega), u _ _ _ _ _ _ (by omega), v, u _ _ _ _ _ _ (by omega), u _ _ _ _ _ _ (by omega)]
  · rw [uI_q _ _ (by omega), v, u _ _ _ _ _ _ (by omega), u _ _ _ _ _ _ (by omega), u _ _ _ _ _ _ (by omega), u _ _ _ _ _ _ (by omega)]
  · rw [uI_s, u _ _ _ _ _ _ (by omega), u _ _ _ _ _ _ (by omega), u _ _ _ _ _ _ (by omega)]
theorem c_bec {q r : Nat} (hq : tq q) (hr : tq r) (hne : q ≠ r) {g : Nat → Nat} {I : sm_I} (hT : cTa q g I) (d n : Nat) (J : sm_J) (K : Option Value → sm_H → Prop)
    (hK : ∀ I', (∀ x c, ¬ (r ≤ x ∧ x < r + 4) → I' x c = I x c) → cTa r g I' → K none (sm_SH n, I', J)) :
    sm_Ok (d + 1) 62 0 [.ref r, .ref q] [] (sm_SH n, I, J) K := by
  obtain ⟨l1, -⟩ := tq_k hr
  simp only [z62_0, z62_1, z62_2, z62_4, z62_6, z62_9, sm_cti, sm_ctr, sm_ctn, sm_nbi, Option.toList_some, Option.toList_none, List.cons_append, List.nil_append, ne_eq, reduceCtorEq, not_false_eq_true, Nat.reduceLeDiff, sm_rc_of l1, if_true, if_false, not_true_eq_false, not_false_eq_true, and_true, true_and, and_false, false_and, and_self, or_true, true_or, or_false, false_or, reduceIte, iff_self, Int32.add_zero, y_10, Classical.not_not]
  refine c_takeOver hq hr hne (p := 8) (e := 12) (by decide) (by decide) d n J _ (fun I' w1 w2 w3 w4 w5 => ?_)
  simp only [z62_0, z62_1, z62_2, z62_4, z62_6, z62_9, sm_cti, sm_ctr, sm_ctn, sm_nbi, Option.toList_some, Option.toList_none, List.cons_append, List.nil_append, ne_eq, reduceCtorEq, not_false_eq_true, Nat.reduceLeDiff, if_true, if_false, not_true_eq_false, not_false_eq_true, and_true, true_and, and_false, false_and, and_self, or_true, true_or, or_false, false_or, reduceIte, iff_self, Int32.add_zero, y_10, Classical.not_not]
  exact hK I' w1 ⟨fun p hp => ⟨by rw [w2, if_pos hp, (hT.1 p hp).1], by rw [w3, if_pos hp, (hT.1 p hp).2]⟩, fun e he => by rw [w4, if_pos he, hT.2.1 e he], by rw [w5, hT.2.2]⟩
/-- a tally behind k songs -/
def rnt (P D : Nat) (f a b : Nat → Nat) (lo : Option ((Nat → Nat) × Nat)) (sl : Nat → Nat) (g : Nat → Nat) : Nat → Nat → Nat
  | 0 => g
  | k + 1 => psg P D f a b lo (rnt P D f a b lo sl g k) (sl k)
/-- what was paid by then -/
def rps (P D : Nat) (f a b : Nat → Nat) (lo : Option ((Nat → Nat) × Nat)) (sl : Nat → Nat) (g : Nat → Nat) : Nat → Nat
  | 0 => 0
  | k + 1 => rps P D f a b lo sl g k + pay P D f a b lo (rnt P D f a b lo sl g k) (sl k)
theorem rnt_bd (hb : bdf P D f a b) (sl : Nat → Nat) {g : Nat → Nat} (hg : bdg g) : ∀ k, bdg (rnt P D f a b lo sl g k)
  | 0 => hg
  | k + 1 => psg_bd lo hb (rnt_bd hb sl hg k) (sl k)
theorem rps_le (sl g : Nat → Nat) : ∀ k, rps P D f a b lo sl g k ≤ 9 * k
  | 0 => Nat.le_refl _
  | k + 1 => by
    have h1 := rps_le sl g k
    have h2 := (pay_le (P := P) (D := D) (f := f) (a := a) (b := b) lo (rnt P D f a b lo sl g k) (sl k)).1
    unfold rps
    omega
/-- the songs of a row -/
abbrev sl (el : Nat → Int32) (i : Nat) : Nat := (el i).toNatClampNeg
theorem c_th_lp (hb : bdf P D f a b) {s t m : Nat} {el : Nat → Int32} {I : sm_I} {J : sm_J} (hR : rowb s t m el I J) (hF : cFo P D f a b I) (hL : cLw lo I) {g : Nat → Nat} (hg : bdg g) {k : Nat} (hk : k ≤ nso D m el) (x2 : Value) (d n : Nat) (K : Option Value → sm_H → Prop) : ∀ (w i : Nat), i + w = k → ∀ I1 : sm_I, (∀ x c, ¬ (x = 29 ∨ x = 30 ∨ (44 ≤ x ∧ x < 48)) → I1 x c = I x c) → cTa 44 (rnt P D f a b lo (sl el) g i) I1 →
    (∀ I', (∀ x c, ¬ (x = 29 ∨ x = 30 ∨ (44 ≤ x ∧ x < 48)) → I' x c = I x c) → cTa 44 (rnt P D f a b lo (sl el) g k) I' → K (some (.int (nI (rps P D f a b lo (sl el) g k)))) (sm_SH n, I', J)) →
    sm_Ok (d + 5) 140 27 [.ref 26, .int (nI s), x2, .int (nI k), .int (nI (rps P D f a b lo (sl el) g i)), .int (nI i)] [] (sm_SH n, I1, J) K
  | 0, i, hi, I1, f1, t1, hK => by
    have hi : i = k := by omega
    subst hi
    rw [z140_27]
    simp only [z140_0, z140_1, z140_2, z140_3, z140_6, z140_9, z140_10, z140_11, z140_13, z140_14, z140_17, z140_18, z140_21, z140_24, z140_25, z140_29, z140_30, z140_33, z140_35, z140_36, z140_39, z140_40, z140_43, z140_44, z140_45, z140_47, z140_50, z140_53, z140_54, z140_56, z140_59, z140_62, z140_64, sm_cti, sm_ctr, sm_ctn, sm_nbi, Option.toList_some, Option.toList_none, List.cons_append, List.nil_append, ne_eq, reduceCtorEq, not_false_eq_true, Nat.reduceLeDiff, Int32.le_refl, if_true, if_false, not_true_eq_false, not_false_eq_true, and_true, true_and, and_false, false_and, and_self, or_true, true_or, or_false, false_or, reduceIte, iff_self, Int32.add_zero, y_10, Classical.not_not]
    exact hK I1 f1 t1
  | w + 1, i, hi, I1, f1, t1, hK => by
    have hik : i < k := by omega
    have hn := nso_le D m el
    have hm := hR.2.1
    obtain ⟨o1, o2⟩ := nso_ok hb.2.1 (show i < nso D m el by omega)
    have hD12 := hb.2.1
    have R1 : rowb s t m el I1 J := rowb_f hR (fun x c hx => f1 x c (by omega))
    rw [z140_27]
    simp only [z140_0, z140_1, z140_2, z140_3, z140_6, z140_9, z140_10, z140_11, z140_13, z140_14, z140_17, z140_18, z140_21, z140_24, z140_25, z140_29, z140_30, z140_33, z140_35, z140_36, z140_39, z140_40, z140_43, z140_44, z140_45, z140_47, z140_50, z140_53, z140_54, z140_56, z140_59, z140_62, z140_64, sm_cti, sm_ctr, sm_ctn, sm_nbi, Option.toList_some, Option.toList_none, List.cons_append, List.nil_append, ne_eq, reduceCtorEq, not_false_eq_true, Nat.reduceLeDiff, kc26, rc26, rc34, rf26_2, rf26_4, if_neg (nI_ge hik (show k < 2 ^ 31 by omega)), c_songAt R1 _ _ _ (show i < 60 by omega), if_true, if_false, not_true_eq_false, not_false_eq_true, and_true, true_and, and_false, false_and, and_self, or_true, true_or, or_false, false_or, reduceIte, iff_self, Int32.add_zero, y_10, Classical.not_not]
    rw [o2]
    refine c_pass hb (cFo_f hF (fun x c h1 h2 => f1 x c (by omega))) (cLw_f hL (fun x c h1 h2 => f1 x c (by omega))) (q := 44) (Or.inr (Or.inl rfl)) (rnt_bd hb _ hg i) t1 (by omega) d n J _ (fun I2 w2 t2 => ?_)
    simp only [z140_0, z140_1, z140_2, z140_3, z140_6, z140_9, z140_10, z140_11, z140_13, z140_14, z140_17, z140_18, z140_21, z140_24, z140_25, z140_29, z140_30, z140_33, z140_35, z140_36, z140_39, z140_40, z140_43, z140_44, z140_45, z140_47, z140_50, z140_53, z140_54, z140_56, z140_59, z140_62, z140_64, sm_cti, sm_ctr, sm_ctn, sm_nbi, Option.toList_some, Option.toList_none, List.cons_append, List.nil_append, ne_eq, reduceCtorEq, not_false_eq_true, Nat.reduceLeDiff, nI_add, nI_1, if_true, if_false, not_true_eq_false, not_false_eq_true, and_true, true_and, and_false, false_and, and_self, or_true, true_or, or_false, false_or, reduceIte, iff_self, Int32.add_zero, y_10, Classical.not_not]
    exact c_th_lp hb hR hF hL hg hk x2 d n K w (i + 1) (by omega) I2 (fun x c hx => by rw [w2 x c (by omega), f1 x c hx]) t2 hK
theorem c_think (hb : bdf P D f a b) {s t m : Nat} {el : Nat → Int32} {I : sm_I} {J : sm_J} (hR : rowb s t m el I J) (hF : cFo P D f a b I) (hL : cLw lo I) (hT : cTa 40 f I) {nn : Nat} (hnn : nn ≤ 40) (d n : Nat) (K : Option Value → sm_H → Prop)
    (hK : ∀ I', (∀ x c, ¬ (x = 29 ∨ x = 30 ∨ (44 ≤ x ∧ x < 48)) → I' x c = I x c) → cTa 44 (rnt P D f a b lo (sl el) f (min nn (nso D m el))) I' → K (some (.int (nI (rps P D f a b lo (sl el) f (min nn (nso D m el)))))) (sm_SH n, I', J)) :
    sm_Ok (d + 5) 140 0 [.ref 26, .int (nI s), .int (nI nn), .null, .null, .null] [] (sm_SH n, I, J) K := by
  have hn := nso_le D m el
  have hg : bdg f := fun k k1 k2 k3 => hb.2.2.1 k k2
  have e1 : (if nI (nso D m el) < nI nn then nI (nso D m el) else nI nn) = nI (min nn (nso D m el)) := nI_min (by omega) (by omega)
  simp only [z140_0, z140_1, z140_2, z140_3, z140_6, z140_9, z140_10, z140_11, z140_13, z140_14, z140_17, z140_18, z140_21, z140_24, z140_25, z140_29, z140_30, z140_33, z140_35, z140_36, z140_39, z140_40, z140_43, z140_44, z140_45, z140_47, z140_50, z140_53, z140_54, z140_56, z140_59, z140_62, z140_64, sm_cti, sm_ctr, sm_ctn, sm_nbi, Option.toList_some, Option.toList_none, List.cons_append, List.nil_append, ne_eq, reduceCtorEq, not_false_eq_true, Nat.reduceLeDiff, kc26, rc26, rc44, rf26_3, rf26_4, c_songsOn hR hF.2.1, e1, if_true, if_false, not_true_eq_false, not_false_eq_true, and_true, true_and, and_false, false_and, and_self, or_true, true_or, or_false, false_or, reduceIte, iff_self, Int32.add_zero, y_10, Classical.not_not]
  refine c_bec (q := 40) (r := 44) (Or.inl rfl) (Or.inr (Or.inl rfl)) (by decide) hT (d + 3) n J _ (fun I1 w1 t1 => ?_)
  simp only [z140_0, z140_1, z140_2, z140_3, z140_6, z140_9, z140_10, z140_11, z140_13, z140_14, z140_17, z140_18, z140_21, z140_24, z140_25, z140_29, z140_30, z140_33, z140_35, z140_36, z140_39, z140_40, z140_43, z140_44, z140_45, z140_47, z140_50, z140_53, z140_54, z140_56, z140_59, z140_62, z140_64, sm_cti, sm_ctr, sm_ctn, sm_nbi, Option.toList_some, Option.toList_none, List.cons_append, List.nil_append, ne_eq, reduceCtorEq, not_false_eq_true, Nat.reduceLeDiff, if_true, if_false, not_true_eq_false, not_false_eq_true, and_true, true_and, and_false, false_and, and_self, or_true, true_or, or_false, false_or, reduceIte, iff_self, Int32.add_zero, y_10, Classical.not_not]
  refine c_th_lp hb hR hF hL hg (Nat.min_le_right _ _) _ d n K (min nn (nso D m el)) 0 (by omega) I1 (fun x c hx => w1 x c (by omega)) t1 hK
theorem m_go_lp (hb : bdf P D f a b) {s t m : Nat} {el : Nat → Int32} {I : sm_I} {J : sm_J} (hR : rowb s t m el I J) (hM : mFo P D f a b I) (hL : mLw lo I) {g : Nat → Nat} (hg : bdg g) {nn : Nat} (hnn : nn ≤ 40) (h26 : I 103 26 = nI (nso D m el)) (hs : ∀ j, j < nso D m el → I 116 j = el j) (x1 : Int32) (d n : Nat) (K : Option Value → sm_H → Prop) : ∀ (w i : Nat), i + w = min nn (nso D m el) → ∀ I1 : sm_I, (∀ x c, ¬ ((112 ≤ x ∧ x < 116) ∨ (x = 103 ∧ ((14 ≤ c ∧ c ≤ 18) ∨ c = 23 ∨ c = 24))) → I1 x c = I x c) → mTa P D (rnt P D f a b lo (sl el) g i) I1 →
    (∀ I', (∀ x c, ¬ ((112 ≤ x ∧ x < 116) ∨ (x = 103 ∧ ((14 ≤ c ∧ c ≤ 18) ∨ c = 23 ∨ c = 24))) → I' x c = I x c) → mTa P D (rnt P D f a b lo (sl el) g (min nn (nso D m el))) I' → K (some (.int (nI (rps P D f a b lo (sl el) g (min nn (nso D m el)))))) (sm_SH n, I', J)) →
    sm_Ok (d + 49) 187 14 [.ref 103, .int x1, .int (nI nn), .int (nI (rps P D f a b lo (sl el) g i)), .int (nI i)] [] (sm_SH n, I1, J) K
  | 0, i, hi, I1, f1, t1, hK => by
    have hn := nso_le D m el
    have e26 : I1 103 26 = nI (nso D m el) := by rw [f1 _ _ (by omega), h26]
    have fin := hK I1 f1 (by rw [show min nn (nso D m el) = i by omega]; exact t1)
    rw [show min nn (nso D m el) = i by omega] at fin
    rw [z187_14]
    by_cases h1 : nn ≤ i
    · have e1 : nI nn ≤ nI i := nI_le h1 (by omega)
      simp only [z187_0, z187_1, z187_2, z187_5, z187_6, z187_9, z187_10, z187_11, z187_12, z187_16, z187_17, z187_20, z187_22, z187_23, z187_26, z187_29, z187_30, z187_31, z187_34, z187_36, z187_37, z187_40, z187_41, z187_42, z187_45, z187_46, z187_47, z187_50, z187_53, z187_54, sm_cti, sm_ctr, sm_ctn, sm_nbi, Option.toList_some, Option.toList_none, List.cons_append, List.nil_append, ne_eq, reduceCtorEq, not_false_eq_true, Nat.reduceLeDiff, e1, if_true, if_false, not_true_eq_false, not_false_eq_true, and_true, true_and, and_false, false_and, and_self, or_true, true_or, or_false, false_or, reduceIte, iff_self, Int32.add_zero, y_10, Classical.not_not]
      exact fin
    · have e1 : ¬ nI nn ≤ nI i := nI_ge (by omega) (by omega)
      have e2 : nI (nso D m el) ≤ nI i := nI_le (by omega) (by omega)
      simp only [z187_0, z187_1, z187_2, z187_5, z187_6, z187_9, z187_10, z187_11, z187_12, z187_16, z187_17, z187_20, z187_22, z187_23, z187_26, z187_29, z187_30, z187_31, z187_34, z187_36, z187_37, z187_40, z187_41, z187_42, z187_45, z187_46, z187_47, z187_50, z187_53, z187_54, sm_cti, sm_ctr, sm_ctn, sm_nbi, Option.toList_some, Option.toList_none, List.cons_append, List.nil_append, ne_eq, reduceCtorEq, not_false_eq_true, Nat.reduceLeDiff, kc103, e1, e26, e2, if_true, if_false, not_true_eq_false, not_false_eq_true, and_true, true_and, and_false, false_and, and_self, or_true, true_or, or_false, false_or, reduceIte, iff_self, Int32.add_zero, y_10, Classical.not_not]
      exact fin
  | w + 1, i, hi, I1, f1, t1, hK => by
    have hn := nso_le D m el
    obtain ⟨o1, o2⟩ := nso_ok hb.2.1 (show i < nso D m el by omega)
    have e26 : I1 103 26 = nI (nso D m el) := by rw [f1 _ _ (by omega), h26]
    have es : I1 116 i = nI (sl el i) := by rw [f1 _ _ (by omega), hs i (by omega), ← o2]
    have e1 : ¬ nI nn ≤ nI i := nI_ge (by omega) (by omega)
    have e2 : ¬ nI (nso D m el) ≤ nI i := nI_ge (by omega) (by omega)
    rw [z187_14]
    simp only [z187_0, z187_1, z187_2, z187_5, z187_6, z187_9, z187_10, z187_11, z187_12, z187_16, z187_17, z187_20, z187_22, z187_23, z187_26, z187_29, z187_30, z187_31, z187_34, z187_36, z187_37, z187_40, z187_41, z187_42, z187_45, z187_46, z187_47, z187_50, z187_53, z187_54, sm_cti, sm_ctr, sm_ctn, sm_nbi, Option.toList_some, Option.toList_none, List.cons_append, List.nil_append, ne_eq, reduceCtorEq, not_false_eq_true, Nat.reduceLeDiff, kc103, kc116, rc103, rf103_25, e1, e26, e2, es, y_inN (show i < 40 by omega) (by decide), nI_clamp (show i < 2 ^ 31 by omega), if_true, if_false, not_true_eq_false, not_false_eq_true, and_true, true_and, and_false, false_and, and_self, or_true, true_or, or_false, false_or, reduceIte, iff_self, Int32.add_zero, y_10, Classical.not_not]
    refine m_pass hb (mFo_f hM (fun x c hx => f1 x c (by omega))) (mLw_f hL (fun x c hx => f1 x c (by omega))) (rnt_bd hb _ hg i) t1 o1 d n J _ (fun I2 w2 t2 p2 => ?_)
    simp only [z187_0, z187_1, z187_2, z187_5, z187_6, z187_9, z187_10, z187_11, z187_12, z187_16, z187_17, z187_20, z187_22, z187_23, z187_26, z187_29, z187_30, z187_31, z187_34, z187_36, z187_37, z187_40, z187_41, z187_42, z187_45, z187_46, z187_47, z187_50, z187_53, z187_54, sm_cti, sm_ctr, sm_ctn, sm_nbi, Option.toList_some, Option.toList_none, List.cons_append, List.nil_append, ne_eq, reduceCtorEq, not_false_eq_true, Nat.reduceLeDiff, kc103, p2, nI_add, nI_1, if_true, if_false, not_true_eq_false, not_false_eq_true, and_true, true_and, and_false, false_and, and_self, or_true, true_or, or_false, false_or, reduceIte, iff_self, Int32.add_zero, y_10, Classical.not_not]
    exact m_go_lp hb hR hM hL hg hnn h26 hs x1 d n K w (i + 1) (by omega) I2 (fun x c hx => by rw [w2 x c (by omega), f1 x c hx]) t2 hK
theorem m_goes (hb : bdf P D f a b) {s t m : Nat} {el : Nat → Int32} {I : sm_I} {J : sm_J} (hR : rowb s t m el I J) (hM : mFo P D f a b I) (hL : mLw lo I) {nn : Nat} (hnn : nn ≤ 40) (d n : Nat) (K : Option Value → sm_H → Prop)
    (hK : ∀ I', (∀ x c, ¬ ((112 ≤ x ∧ x < 117) ∨ (x = 103 ∧ 14 ≤ c ∧ c ≤ 26)) → I' x c = I x c) → mTa P D (rnt P D f a b lo (sl el) f (min nn (nso D m el))) I' → I' 103 26 = nI (nso D m el) → (∀ j, j < nso D m el → I' 116 j = el j) → K (some (.int (nI (rps P D f a b lo (sl el) f (min nn (nso D m el)))))) (sm_SH n, I', J)) :
    sm_Ok (d + 49) 187 0 [.ref 103, .int (nI s), .int (nI nn), .null, .null] [] (sm_SH n, I, J) K := by
  have hg : bdg f := fun k k1 k2 k3 => hb.2.2.1 k k2
  simp only [z187_0, z187_1, z187_2, sm_cti, sm_ctr, sm_ctn, sm_nbi, Option.toList_some, Option.toList_none, List.cons_append, List.nil_append, ne_eq, reduceCtorEq, not_false_eq_true, Nat.reduceLeDiff, rc103, if_true, if_false, not_true_eq_false, not_false_eq_true, and_true, true_and, and_false, false_and, and_self, or_true, true_or, or_false, false_or, reduceIte, iff_self, Int32.add_zero, y_10, Classical.not_not]
  refine m_takesSongs hR hM.2.1 hb.2.1 (d + 46) n _ (fun I1 w1 s1 s2 => ?_)
  simp only [z187_5, z187_6, sm_cti, sm_ctr, sm_ctn, sm_nbi, Option.toList_some, Option.toList_none, List.cons_append, List.nil_append, ne_eq, reduceCtorEq, not_false_eq_true, Nat.reduceLeDiff, rc103, if_true, if_false, not_true_eq_false, not_false_eq_true, and_true, true_and, and_false, false_and, and_self, or_true, true_or, or_false, false_or, reduceIte, iff_self, Int32.add_zero, y_10, Classical.not_not]
  have mF1 := mFo_f hM (I' := I1) (fun x c hx => w1 x c (by omega))
  refine m_begins hb mF1 _ n J _ (fun I2 w2 t2 => ?_)
  simp only [z187_9, z187_10, z187_11, z187_12, sm_cti, sm_ctr, sm_ctn, sm_nbi, Option.toList_some, Option.toList_none, List.cons_append, List.nil_append, ne_eq, reduceCtorEq, not_false_eq_true, Nat.reduceLeDiff, if_true, if_false, not_true_eq_false, not_false_eq_true, and_true, true_and, and_false, false_and, and_self, or_true, true_or, or_false, false_or, reduceIte, iff_self, Int32.add_zero, y_10, Classical.not_not]
  have R2 : rowb s t m el I2 J := rowb_f hR (fun x c hx => by rw [w2 x c (by omega), w1 x c (by omega)])
  refine m_go_lp hb R2 (mFo_f mF1 (fun x c hx => w2 x c (by omega))) (mLw_f hL (fun x c hx => by rw [w2 x c (by omega), w1 x c (by omega)])) hg hnn (by rw [w2 _ _ (by omega), s1]) (fun j hj => by rw [w2 _ _ (by omega), s2 j hj]) _ d n K (min nn (nso D m el)) 0 (by omega) I2 (fun x c _ => rfl) t2 (fun I' w3 t3 => ?_)
  exact hK I' (fun x c hx => by rw [w3 x c (by omega), w2 x c (by omega), w1 x c (by omega)]) t3 (by rw [w3 _ _ (by omega), w2 _ _ (by omega), s1]) (fun j hj => by rw [w3 _ _ (by omega), w2 _ _ (by omega), s2 j hj])
end
