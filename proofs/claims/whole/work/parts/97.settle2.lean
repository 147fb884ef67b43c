/-! both answer alike: settle -/
theorem nI_or (x y : Nat) : nI x ||| nI y = nI (x ||| y) := tb_ext (fun i hi => by
  rw [tb_or, tb_nI, tb_nI, tb_nI, Nat.testBit_or]
  cases decide (i < 32) <;> simp)
theorem nI_xor (x y : Nat) : nI x ^^^ nI y = nI (x ^^^ y) := tb_ext (fun i hi => by
  rw [tb_xor, tb_nI, tb_nI, tb_nI, Nat.testBit_xor]
  cases decide (i < 32) <;> simp)
theorem nI_clr {s k : Nat} (hk : k < 12) (h : s.testBit k = true) : nI s &&& (nI (2 ^ k) ^^^ (-1)) = nI (s ^^^ 2 ^ k) := by
  rw [← tb_p2 k (by omega)]
  refine tb_ext (fun i hi => ?_)
  rw [tb_clr _ (by omega) hi, tb_nI, tb_nI, nx_set h]
  cases decide (i < 32) <;> simp
theorem nI_subset {s T : Nat} (hs : s < 256) : (nI s &&& (nI T ^^^ (-1)) = 0) = (qb T s = true) := by
  apply propext
  unfold qb
  rw [tb_sub, decide_eq_true_iff]
  constructor
  · intro h
    apply Nat.eq_of_testBit_eq
    intro i
    rw [Nat.testBit_and]
    by_cases hi : i < 32
    · have h2 := h i hi
      rw [tb_nI, tb_nI] at h2
      cases e : s.testBit i with
      | false => rfl
      | true =>
        rw [e] at h2
        have := h2 (by simp [hi])
        simp [hi] at this
        rw [this]
        rfl
    · have h3 : s < 2 ^ i := Nat.lt_of_lt_of_le (show s < 2 ^ 8 from hs) (Nat.pow_le_pow_right (by decide) (by omega))
      rw [Nat.testBit_lt_two_pow h3]
      rfl
  · intro h i hi hx
    rw [tb_nI] at hx ⊢
    simp [hi] at hx ⊢
    rw [← h, Nat.testBit_and, Bool.and_eq_true] at hx
    exact hx.2
theorem p2_8 {p : Nat} (h : p ≤ 8) : 2 ^ p ≤ 256 := Nat.pow_le_pow_right (n := 2) (by decide) h
theorem p2_s (p : Nat) : 2 ^ (p + 1) = 2 ^ p + 2 ^ p := by rw [Nat.pow_succ, Nat.mul_two]
section
variable {P D : Nat} {f a b : Nat → Nat}
/-- ABOVE of each -/
abbrev clf (f a b : Nat → Nat) (D : Nat) (p : Nat) : Int32 := clm a b f p D
theorem c_su_in {I : sm_I} {c : Nat → Int32} {p : Nat} (hp : p < 8) (d n : Nat) (J : sm_J) (K : Option Value → sm_H → Prop) : ∀ (w r : Nat), r + w = 2 ^ p → ∀ I1 : sm_I, (∀ x y, ¬ x = 85 → I1 x y = I x y) → (∀ s, s < 2 ^ p + r → I1 85 s = ssum c s (p + 1)) →
    (∀ I', (∀ x y, ¬ x = 85 → I' x y = I x y) → (∀ s, s < 2 ^ (p + 1) → I' 85 s = ssum c s (p + 1)) → sm_Ok d 46 70 [.ref 84, .ref 40, .int (nI p), .int (c p), .int (nI (2 ^ p)), .int (nI (2 ^ p))] [] (sm_SH n, I', J) K) →
    sm_Ok d 46 38 [.ref 84, .ref 40, .int (nI p), .int (c p), .int (nI (2 ^ p)), .int (nI r)] [] (sm_SH n, I1, J) K
  | 0, r, h, I1, f1, f2, hK => by
    have hr : r = 2 ^ p := by omega
    subst hr
    rw [z46_38]
    simp only [z46_40, z46_42, sm_cti, sm_ctr, sm_ctn, sm_nbi, Option.toList_some, Option.toList_none, List.cons_append, List.nil_append, ne_eq, reduceCtorEq, not_false_eq_true, Nat.reduceLeDiff, Int32.le_refl, if_true, if_false, not_true_eq_false, not_false_eq_true, and_true, true_and, and_false, false_and, and_self, or_true, true_or, or_false, false_or, reduceIte, iff_self, Int32.add_zero, y_10, Classical.not_not]
    exact hK I1 f1 (fun s hs => f2 s (by rw [p2_s] at hs; omega))
  | w + 1, r, h, I1, f1, f2, hK => by
    have h8 := p2_8 (show p + 1 ≤ 8 by omega)
    rw [p2_s] at h8
    have e0 : ¬ nI (2 ^ p) ≤ nI r := nI_ge (by omega) (by omega)
    have ea : nI (2 ^ p) + nI r = nI (2 ^ p + r) := nI_add _ _
    have er := f2 r (by omega)
    have hrb : r.testBit p = false := Nat.testBit_lt_two_pow (by omega)
    have es : ssum c (2 ^ p + r) (p + 1) = ssum c r (p + 1) + c p := by
      rw [ssum_s, ssum_s, hrb, Nat.testBit_two_pow_add_eq, hrb, if_pos (show (!false) = true from rfl), if_neg (by decide)]
      rw [ssum_congr (s := 2 ^ p + r) (t := r) (fun i hi _ => Nat.testBit_two_pow_add_gt hi r)]
    rw [z46_38]
    simp only [z46_40, z46_42, z46_45, z46_46, z46_49, z46_51, z46_53, z46_54, z46_55, z46_58, z46_60, z46_61, z46_62, z46_63, z46_64, z46_67, sm_cti, sm_ctr, sm_ctn, sm_nbi, Option.toList_some, Option.toList_none, List.cons_append, List.nil_append, ne_eq, reduceCtorEq, not_false_eq_true, Nat.reduceLeDiff, kc84, kc85, rf84_1, e0, ea, er, nI_1, y_inN (show r < 256 by omega) (by decide), nI_clamp (show r < 2 ^ 31 by omega), y_inN (show 2 ^ p + r < 256 by omega) (by decide), nI_clamp (show 2 ^ p + r < 2 ^ 31 by omega), if_true, if_false, not_true_eq_false, not_false_eq_true, and_true, true_and, and_false, false_and, and_self, or_true, true_or, or_false, false_or, reduceIte, iff_self, Int32.add_zero, y_10, Classical.not_not]
    refine c_su_in hp d n J K w (r + 1) (by omega) _ (fun x y hx => by rw [uI_q _ _ hx, f1 x y hx]) (fun s hs => ?_) hK
    by_cases e : s = 2 ^ p + r
    · subst e
      rw [uI_s, es]
    · rw [uI_o _ _ (by omega), f2 s (by omega)]
theorem c_su_lp {I : sm_I} (hb : bdf P D f a b) (hF : cFo P D f a b I) (hT : cTa 40 f I) (d n : Nat) (J : sm_J) (K : Option Value → sm_H → Prop) : ∀ (w p : Nat), p + w = P → ∀ (I1 : sm_I) (x3 x4 x5 : Value), x3.category = 1 → x4.category = 1 → x5.category = 1 → (∀ x y, ¬ x = 85 → I1 x y = I x y) → (∀ s, s < 2 ^ p → I1 85 s = ssum (clf f a b D) s p) →
    (∀ I', (∀ x y, ¬ x = 85 → I' x y = I x y) → (∀ s, s < 2 ^ P → I' 85 s = ssum (clf f a b D) s P) → K none (sm_SH n, I', J)) →
    sm_Ok (d + 1) 46 9 [.ref 84, .ref 40, .int (nI p), x3, x4, x5] [] (sm_SH n, I1, J) K
  | 0, p, h, I1, x3, x4, x5, k3, k4, k5, f1, f2, hK => by
    have hp : p = P := by omega
    subst hp
    have e6 : I1 34 6 = nI p := by rw [f1 _ _ (by omega), hF.1]
    rw [z46_9]
    simp only [z46_10, z46_11, z46_14, z46_17, z46_76, sm_cti, sm_ctr, sm_ctn, sm_nbi, Option.toList_some, Option.toList_none, List.cons_append, List.nil_append, ne_eq, reduceCtorEq, not_false_eq_true, Nat.reduceLeDiff, kc34, kc84, rf84_0, e6, Int32.le_refl, if_true, if_false, not_true_eq_false, not_false_eq_true, and_true, true_and, and_false, false_and, and_self, or_true, true_or, or_false, false_or, reduceIte, iff_self, Int32.add_zero, y_10, Classical.not_not]
    exact hK I1 f1 f2
  | w + 1, p, h, I1, x3, x4, x5, k3, k4, k5, f1, f2, hK => by
    have hP := hb.1
    have e6 : I1 34 6 = nI P := by rw [f1 _ _ (by omega), hF.1]
    have e0 : ¬ nI P ≤ nI p := nI_ge (show p < P by omega) (by omega)
    have F1 : cFo P D f a b I1 := cFo_f hF (fun x c h1 h2 => f1 x c (by omega))
    have T1 : cTa 40 f I1 := cTa_f hT (fun x c h1 h2 => f1 x c (by omega))
    have n0 : (0 : Int32) = nI 0 := rfl
    have ec : clm a b f p D = clf f a b D p := rfl
    rw [z46_9]
    simp only [z46_10, z46_11, z46_14, z46_17, z46_20, z46_21, z46_24, z46_25, z46_26, z46_29, z46_30, z46_31, z46_32, z46_33, z46_35, z46_36, sm_cti, sm_ctr, sm_ctn, sm_nbi, Option.toList_some, Option.toList_none, List.cons_append, List.nil_append, ne_eq, reduceCtorEq, not_false_eq_true, Nat.reduceLeDiff, kc34, kc84, rc34, rf84_0, e6, e0, c_claims hb F1 (q := 40) (Or.inl rfl) T1 (show p < 8 by omega), tb_p2 p (by omega), k3, k4, k5, if_true, if_false, not_true_eq_false, not_false_eq_true, and_true, true_and, and_false, false_and, and_self, or_true, true_or, or_false, false_or, reduceIte, iff_self, Int32.add_zero, y_10, Classical.not_not]
    rw [n0, ec]
    refine c_su_in (I := I) (c := clf f a b D) (show p < 8 by omega) _ n J K (2 ^ p) 0 (by omega) I1 f1 (fun s hs => ?_) (fun I2 w1 w2 => ?_)
    · rw [f2 s (by omega), ssum_s, Nat.testBit_lt_two_pow (show s < 2 ^ p by omega), if_neg (by decide)]
    · simp only [z46_70, z46_73, sm_cti, sm_ctr, sm_ctn, sm_nbi, Option.toList_some, Option.toList_none, List.cons_append, List.nil_append, ne_eq, reduceCtorEq, not_false_eq_true, Nat.reduceLeDiff, nI_1, if_true, if_false, not_true_eq_false, not_false_eq_true, and_true, true_and, and_false, false_and, and_self, or_true, true_or, or_false, false_or, reduceIte, iff_self, Int32.add_zero, y_10, Classical.not_not]
      exact c_su_lp hb hF hT d n J K w (p + 1) (by omega) I2 _ _ _ rfl rfl rfl w1 w2 hK
theorem c_sumUp {I : sm_I} (hb : bdf P D f a b) (hF : cFo P D f a b I) (hT : cTa 40 f I) (d n : Nat) (J : sm_J) (K : Option Value → sm_H → Prop)
    (hK : ∀ I', (∀ x y, ¬ x = 85 → I' x y = I x y) → (∀ s, s < 2 ^ P → I' 85 s = ssum (clf f a b D) s P) → K none (sm_SH n, I', J)) :
    sm_Ok (d + 1) 46 0 [.ref 84, .ref 40, .null, .null, .null, .null] [] (sm_SH n, I, J) K := by
  have n0 : (0 : Int32) = nI 0 := rfl
  have i0 : sm_in 0 256 = true := by decide
  have c0 : (0 : Int32).toNatClampNeg = 0 := by decide
  rw [z46_0]
  simp only [z46_1, z46_4, z46_5, z46_6, z46_7, z46_8, sm_cti, sm_ctr, sm_ctn, sm_nbi, Option.toList_some, Option.toList_none, List.cons_append, List.nil_append, ne_eq, reduceCtorEq, not_false_eq_true, Nat.reduceLeDiff, kc84, kc85, rf84_1, i0, c0, if_true, if_false, not_true_eq_false, not_false_eq_true, and_true, true_and, and_false, false_and, and_self, or_true, true_or, or_false, false_or, reduceIte, iff_self, Int32.add_zero, y_10, Classical.not_not]
  have hlp := c_su_lp hb hF hT d n J K P 0 (by omega) (sm_uI I 85 0 0) .null .null .null rfl rfl rfl (fun x y hx => by rw [uI_q _ _ hx]) (fun s hs => by
    have : s = 0 := by
      have : (2 : Nat) ^ 0 = 1 := rfl
      omega
    subst this
    rw [uI_s]
    rfl) hK
  exact hlp
theorem c_mg_lp {I : sm_I} {g : Nat → Nat} {s : Nat} (hs : s < 256) (hP : P ≤ 8) (h6 : I 34 6 = nI P) (hg : ∀ j, j < s → I 86 j = nI (g j)) (hl : ∀ j, j < s → g j ≤ 1000) (d n : Nat) (J : sm_J) (K : Option Value → sm_H → Prop) : ∀ (w k : Nat), k + w = P →
    (sm_Ok d 47 4 [.ref 84, .int (nI s), .int (nI (mxs (fun p => g (s ^^^ 2 ^ p)) s k)), .int (nI k)] [] (sm_SH n, I, J) K ↔ K (some (.int (nI (mxs (fun p => g (s ^^^ 2 ^ p)) s P)))) (sm_SH n, I, J))
  | 0, k, h => by
    have hk : k = P := by omega
    subst hk
    rw [z47_4]
    simp only [z47_1, z47_2, z47_3, z47_5, z47_6, z47_9, z47_12, z47_15, z47_16, z47_17, z47_18, z47_19, z47_20, z47_23, z47_24, z47_25, z47_28, z47_29, z47_30, z47_31, z47_32, z47_33, z47_34, z47_37, z47_38, z47_41, z47_44, z47_45, sm_cti, sm_ctr, sm_ctn, sm_nbi, Option.toList_some, Option.toList_none, List.cons_append, List.nil_append, ne_eq, reduceCtorEq, not_false_eq_true, Nat.reduceLeDiff, kc34, kc84, rf84_0, h6, Int32.le_refl, if_true, if_false, not_true_eq_false, not_false_eq_true, and_true, true_and, and_false, false_and, and_self, or_true, true_or, or_false, false_or, reduceIte, iff_self, Int32.add_zero, y_10, Classical.not_not]
  | w + 1, k, h => by
    have e0 : ¬ nI P ≤ nI k := nI_ge (show k < P by omega) (by omega)
    have eb : tb (nI s) k = s.testBit k := by
      rw [tb_nI]
      have : decide (k < 32) = true := decide_eq_true (by omega)
      rw [this, Bool.true_and]
    have ml : mxs (fun p => g (s ^^^ 2 ^ p)) s k ≤ 1000 := mxs_le (fun p hp hbp => hl _ (nx_lt hbp))
    rw [← c_mg_lp hs hP h6 hg hl d n J K w (k + 1) (by omega), z47_4, mxs_s]
    cases hb : s.testBit k with
    | false =>
      rw [if_neg (by decide)]
      simp only [z47_1, z47_2, z47_3, z47_5, z47_6, z47_9, z47_12, z47_15, z47_16, z47_17, z47_18, z47_19, z47_20, z47_23, z47_24, z47_25, z47_28, z47_29, z47_30, z47_31, z47_32, z47_33, z47_34, z47_37, z47_38, z47_41, z47_44, z47_45, sm_cti, sm_ctr, sm_ctn, sm_nbi, Option.toList_some, Option.toList_none, List.cons_append, List.nil_append, ne_eq, reduceCtorEq, not_false_eq_true, Nat.reduceLeDiff, kc34, kc84, rf84_0, h6, e0, tb_in0 _ (show k < 32 by omega), eb, hb, nI_1, if_true, if_false, not_true_eq_false, not_false_eq_true, and_true, true_and, and_false, false_and, and_self, or_true, true_or, or_false, false_or, reduceIte, iff_self, Int32.add_zero, y_10, Classical.not_not]
    | true =>
      have hlt := nx_lt hb
      have hgk := hg _ hlt
      have hlk := hl _ hlt
      rw [if_pos rfl, ← nI_max (show mxs (fun p => g (s ^^^ 2 ^ p)) s k < 2 ^ 31 by omega) (show g (s ^^^ 2 ^ k) < 2 ^ 31 by omega)]
      have tf : (true = false) = False := by decide
      simp only [z47_1, z47_2, z47_3, z47_5, z47_6, z47_9, z47_12, z47_15, z47_16, z47_17, z47_18, z47_19, z47_20, z47_23, z47_24, z47_25, z47_28, z47_29, z47_30, z47_31, z47_32, z47_33, z47_34, z47_37, z47_38, z47_41, z47_44, z47_45, sm_cti, sm_ctr, sm_ctn, sm_nbi, Option.toList_some, Option.toList_none, List.cons_append, List.nil_append, ne_eq, reduceCtorEq, not_false_eq_true, Nat.reduceLeDiff, kc34, kc84, kc86, rf84_0, rf84_2, h6, e0, tb_in0 _ (show k < 32 by omega), eb, hb, tf, tb_p2 k (by omega), nI_xor, hgk, nI_1, y_inN (show s ^^^ 2 ^ k < 256 by omega) (by decide), nI_clamp (show s ^^^ 2 ^ k < 2 ^ 31 by omega), if_true, if_false, not_true_eq_false, not_false_eq_true, and_true, true_and, and_false, false_and, and_self, or_true, true_or, or_false, false_or, reduceIte, iff_self, Int32.add_zero, y_10, Classical.not_not]
theorem c_mostG {I : sm_I} {g : Nat → Nat} {s : Nat} (hs : s < 256) (hP : P ≤ 8) (h6 : I 34 6 = nI P) (hg : ∀ j, j < s → I 86 j = nI (g j)) (hl : ∀ j, j < s → g j ≤ 1000) (d n : Nat) (J : sm_J) (K : Option Value → sm_H → Prop) :
    sm_Ok d 47 0 [.ref 84, .int (nI s), .null, .null] [] (sm_SH n, I, J) K ↔ K (some (.int (nI (mxs (fun p => g (s ^^^ 2 ^ p)) s P)))) (sm_SH n, I, J) := by
  rw [← c_mg_lp hs hP h6 hg hl d n J K P 0 (by omega), z47_0]
  simp only [z47_1, z47_2, z47_3, sm_cti, sm_ctr, sm_ctn, sm_nbi, Option.toList_some, Option.toList_none, List.cons_append, List.nil_append, ne_eq, reduceCtorEq, not_false_eq_true, Nat.reduceLeDiff, if_true, if_false, not_true_eq_false, not_false_eq_true, and_true, true_and, and_false, false_and, and_self, or_true, true_or, or_false, false_or, reduceIte, iff_self, Int32.add_zero, y_10, Classical.not_not]
  exact Iff.rfl
theorem c_fw_lp {I : sm_I} {c : Nat → Int32} (hP : P ≤ 8) (h6 : I 34 6 = nI P) (hs : ∀ s, s < 2 ^ P → I 85 s = ssum c s P) (d n : Nat) (J : sm_J) (K : Option Value → sm_H → Prop) : ∀ (w s : Nat), s + w = 2 ^ P → 0 < s → ∀ I1 : sm_I, (∀ x y, ¬ x = 86 → I1 x y = I x y) → (∀ j, j < s → I1 86 j = nI (sv (fun _ => true) (zb c P) P j)) →
    (∀ I', (∀ x y, ¬ x = 86 → I' x y = I x y) → K (some (.int (nI P - nI (sv (fun _ => true) (zb c P) P (2 ^ P - 1))))) (sm_SH n, I', J)) →
    sm_Ok (d + 1) 45 24 [.ref 84, .ref 40, .int (nI (2 ^ P)), .int (nI s)] [] (sm_SH n, I1, J) K
  | 0, s, h, hs0, I1, f1, f2, hK => by
    have hs : s = 2 ^ P := by omega
    subst hs
    have h8 := p2_8 hP
    have e6 : I1 34 6 = nI P := by rw [f1 _ _ (by omega), h6]
    have el := f2 (2 ^ P - 1) (by omega)
    have e1 : nI (2 ^ P) - 1 = nI (2 ^ P - 1) := nI_sub (b := 1) (by omega)
    rw [z45_24]
    simp only [z45_25, z45_26, z45_61, z45_62, z45_65, z45_68, z45_69, z45_72, z45_73, z45_74, z45_75, z45_76, z45_77, sm_cti, sm_ctr, sm_ctn, sm_nbi, Option.toList_some, Option.toList_none, List.cons_append, List.nil_append, ne_eq, reduceCtorEq, not_false_eq_true, Nat.reduceLeDiff, kc34, kc84, kc86, rf84_0, rf84_2, e6, e1, el, Int32.le_refl, y_inN (show 2 ^ P - 1 < 256 by omega) (by decide), nI_clamp (show 2 ^ P - 1 < 2 ^ 31 by omega), if_true, if_false, not_true_eq_false, not_false_eq_true, and_true, true_and, and_false, false_and, and_self, or_true, true_or, or_false, false_or, reduceIte, iff_self, Int32.add_zero, y_10, Classical.not_not]
    exact hK I1 f1
  | w + 1, s, h, hs0, I1, f1, f2, hK => by
    have h8 := p2_8 hP
    have e6 : I1 34 6 = nI P := by rw [f1 _ _ (by omega), h6]
    have e0 : ¬ nI (2 ^ P) ≤ nI s := nI_ge (by omega) (by omega)
    have es : I1 85 s = ssum c s P := by rw [f1 _ _ (by omega), hs s (by omega)]
    have hl : ∀ j, j < s → sv (fun _ => true) (zb c P) P j ≤ 1000 := fun j hj => by
      have := sv_le (q := fun _ => true) (z := zb c P) (P := P) j
      omega
    have hv := sv_s (q := fun _ => true) (z := zb c P) (P := P) hs0
    rw [if_pos rfl] at hv
    have nx : ∀ j, nI (mxs (fun p => sv (fun _ => true) (zb c P) P (s ^^^ 2 ^ p)) s P) + nI j = nI (mxs (fun p => sv (fun _ => true) (zb c P) P (s ^^^ 2 ^ p)) s P + j) := fun j => nI_add _ _
    rw [z45_24]
    by_cases hz : ssum c s P = 0
    · have hz1 : zb c P s = true := by
        unfold zb
        rw [decide_eq_true_iff]
        exact hz
      rw [hz1, if_pos rfl] at hv
      have hz' := eq_true hz
      simp only [z45_25, z45_26, z45_29, z45_30, z45_33, z45_34, z45_35, z45_36, z45_39, z45_40, z45_43, z45_44, z45_45, z45_48, z45_49, z45_53, z45_54, z45_55, z45_58, sm_cti, sm_ctr, sm_ctn, sm_nbi, Option.toList_some, Option.toList_none, List.cons_append, List.nil_append, ne_eq, reduceCtorEq, not_false_eq_true, Nat.reduceLeDiff, kc34, kc84, kc85, kc86, rc84, rf84_0, rf84_1, rf84_2, e0, c_mostG (show s < 256 by omega) hP e6 f2 hl, es, hz', nI_1, y_inN (show s < 256 by omega) (by decide), nI_clamp (show s < 2 ^ 31 by omega), if_true, if_false, not_true_eq_false, not_false_eq_true, and_true, true_and, and_false, false_and, and_self, or_true, true_or, or_false, false_or, reduceIte, iff_self, Int32.add_zero, y_10, Classical.not_not]
      refine c_fw_lp hP h6 hs d n J K w (s + 1) (by omega) (by omega) _ (fun x y hx => by rw [uI_q _ _ hx, f1 x y hx]) (fun j hj => ?_) hK
      by_cases e : j = s
      · subst e
        rw [uI_s, hv]
      · rw [uI_o _ _ (by omega), f2 j (by omega)]
    · have hz1 : zb c P s = false := by
        unfold zb
        rw [decide_eq_false_iff_not]
        exact hz
      rw [hz1, if_neg (by decide)] at hv
      simp only [z45_25, z45_26, z45_29, z45_30, z45_33, z45_34, z45_35, z45_36, z45_39, z45_40, z45_43, z45_44, z45_45, z45_52, z45_53, z45_54, z45_55, z45_58, sm_cti, sm_ctr, sm_ctn, sm_nbi, Option.toList_some, Option.toList_none, List.cons_append, List.nil_append, ne_eq, reduceCtorEq, not_false_eq_true, Nat.reduceLeDiff, kc34, kc84, kc85, kc86, rc84, rf84_0, rf84_1, rf84_2, e0, c_mostG (show s < 256 by omega) hP e6 f2 hl, es, hz, nI_1, y_inN (show s < 256 by omega) (by decide), nI_clamp (show s < 2 ^ 31 by omega), if_true, if_false, not_true_eq_false, not_false_eq_true, and_true, true_and, and_false, false_and, and_self, or_true, true_or, or_false, false_or, reduceIte, iff_self, Int32.add_zero, y_10, Classical.not_not]
      refine c_fw_lp hP h6 hs d n J K w (s + 1) (by omega) (by omega) _ (fun x y hx => by rw [uI_q _ _ hx, f1 x y hx]) (fun j hj => ?_) hK
      by_cases e : j = s
      · subst e
        rw [uI_s, hv, Nat.add_zero]
      · rw [uI_o _ _ (by omega), f2 j (by omega)]
theorem m_th_lp {I : sm_I} (hb : bdf P D f a b) (hM : mFo P D f a b I) (x3 x4 x5 x6 : Value) (d n : Nat) (J : sm_J) (K : Option Value → sm_H → Prop) : ∀ (w k : Nat), k + w = P →
    (sm_Ok (d + 1) 197 4 [.ref 103, .int (nI (thn (clf f a b D) k)), .int (nI k), x3, x4, x5, x6] [] (sm_SH n, I, J) K ↔ sm_Ok (d + 1) 197 36 [.ref 103, .int (nI (thn (clf f a b D) P)), .int (nI P), x3, x4, x5, x6] [] (sm_SH n, I, J) K)
  | 0, k, h => by
    have hk : k = P := by omega
    subst hk
    rw [z197_4]
    simp only [z197_5, z197_6, z197_9, sm_cti, sm_ctr, sm_ctn, sm_nbi, Option.toList_some, Option.toList_none, List.cons_append, List.nil_append, ne_eq, reduceCtorEq, not_false_eq_true, Nat.reduceLeDiff, kc103, hM.1, Int32.le_refl, if_true, if_false, not_true_eq_false, not_false_eq_true, and_true, true_and, and_false, false_and, and_self, or_true, true_or, or_false, false_or, reduceIte, iff_self, Int32.add_zero, y_10, Classical.not_not]
  | w + 1, k, h => by
    have hP := hb.1
    have e0 : ¬ nI P ≤ nI k := nI_ge (show k < P by omega) (by omega)
    have ec : clm a b f k D = clf f a b D k := rfl
    rw [← m_th_lp hb hM x3 x4 x5 x6 d n J K w (k + 1) (by omega), z197_4, thn_s]
    by_cases hc : clf f a b D k = 0
    · rw [if_pos hc]
      have hc' := eq_true hc
      simp only [z197_5, z197_6, z197_9, z197_12, z197_13, z197_14, z197_15, z197_18, z197_27, z197_28, z197_29, z197_30, z197_33, sm_cti, sm_ctr, sm_ctn, sm_nbi, Option.toList_some, Option.toList_none, List.cons_append, List.nil_append, ne_eq, reduceCtorEq, not_false_eq_true, Nat.reduceLeDiff, kc103, rc103, hM.1, e0, m_aboveOf hb hM (show k < 8 by omega), ec, hc', or_z, nI_1, if_true, if_false, not_true_eq_false, not_false_eq_true, and_true, true_and, and_false, false_and, and_self, or_true, true_or, or_false, false_or, reduceIte, iff_self, Int32.add_zero, y_10, Classical.not_not]
    · rw [if_neg hc]
      simp only [z197_5, z197_6, z197_9, z197_12, z197_13, z197_14, z197_15, z197_18, z197_21, z197_22, z197_23, z197_24, z197_28, z197_29, z197_30, z197_33, sm_cti, sm_ctr, sm_ctn, sm_nbi, Option.toList_some, Option.toList_none, List.cons_append, List.nil_append, ne_eq, reduceCtorEq, not_false_eq_true, Nat.reduceLeDiff, kc103, rc103, hM.1, e0, m_aboveOf hb hM (show k < 8 by omega), ec, hc, tb_p2 k (by omega), nI_or, nI_1, if_true, if_false, not_true_eq_false, not_false_eq_true, and_true, true_and, and_false, false_and, and_self, or_true, true_or, or_false, false_or, reduceIte, iff_self, Int32.add_zero, y_10, Classical.not_not]
theorem m_se_in {I : sm_I} (hb : bdf P D f a b) (hM : mFo P D f a b I) {g : Nat → Nat} {s : Nat} (hs : s < 256) (hg : ∀ j, j < s → I 117 j = nI (g j)) (hl : ∀ j, j < s → g j ≤ 1000) (x1 : Int32) (d n : Nat) (J : sm_J) (K : Option Value → sm_H → Prop)
    (hK : ∀ x6 : Value, x6.category = 1 → sm_Ok (d + 1) 197 120 [.ref 103, .int x1, .int (nI s), .int (ssum (clf f a b D) s P), .int (nI (mxs (fun p => g (s ^^^ 2 ^ p)) s P)), .int (nI P), x6] [] (sm_SH n, I, J) K) : ∀ (w k : Nat), k + w = P → ∀ x6 : Value, x6.category = 1 →
    sm_Ok (d + 1) 197 56 [.ref 103, .int x1, .int (nI s), .int (ssum (clf f a b D) s k), .int (nI (mxs (fun p => g (s ^^^ 2 ^ p)) s k)), .int (nI k), x6] [] (sm_SH n, I, J) K
  | 0, k, h, x6, k6 => by
    have hk : k = P := by omega
    subst hk
    rw [z197_56]
    simp only [z197_58, z197_59, z197_62, sm_cti, sm_ctr, sm_ctn, sm_nbi, Option.toList_some, Option.toList_none, List.cons_append, List.nil_append, ne_eq, reduceCtorEq, not_false_eq_true, Nat.reduceLeDiff, kc103, hM.1, Int32.le_refl, if_true, if_false, not_true_eq_false, not_false_eq_true, and_true, true_and, and_false, false_and, and_self, or_true, true_or, or_false, false_or, reduceIte, iff_self, Int32.add_zero, y_10, Classical.not_not]
    exact hK x6 k6
  | w + 1, k, h, x6, k6 => by
    have hP := hb.1
    have e0 : ¬ nI P ≤ nI k := nI_ge (show k < P by omega) (by omega)
    have eb : tb (nI s) k = s.testBit k := by
      rw [tb_nI]
      have : decide (k < 32) = true := decide_eq_true (by omega)
      rw [this, Bool.true_and]
    have ml : mxs (fun p => g (s ^^^ 2 ^ p)) s k ≤ 1000 := mxs_le (fun p hp hbp => hl _ (nx_lt hbp))
    have ec : clm a b f k D = clf f a b D k := rfl
    have hrec := m_se_in hb hM hs hg hl x1 d n J K hK w (k + 1) (by omega)
    rw [ssum_s, mxs_s] at hrec
    rw [z197_56]
    cases hbk : s.testBit k with
    | false =>
      rw [hbk, if_neg (by decide), if_neg (by decide)] at hrec
      have tf : (false = true) = False := by decide
      simp only [z197_58, z197_59, z197_62, z197_65, z197_66, z197_68, z197_71, z197_114, z197_117, sm_cti, sm_ctr, sm_ctn, sm_nbi, Option.toList_some, Option.toList_none, List.cons_append, List.nil_append, ne_eq, reduceCtorEq, not_false_eq_true, Nat.reduceLeDiff, kc103, hM.1, e0, m_isInX _ (show k < 32 by omega), eb, hbk, tf, nI_1, if_true, if_false, not_true_eq_false, not_false_eq_true, and_true, true_and, and_false, false_and, and_self, or_true, true_or, or_false, false_or, reduceIte, iff_self, Int32.add_zero, y_10, Classical.not_not]
      exact hrec x6 k6
    | true =>
      have hlt := nx_lt hbk
      have hgk := hg _ hlt
      have hlk := hl _ hlt
      rw [hbk, if_pos rfl, if_pos rfl] at hrec
      have ecl := nI_clr (s := s) (k := k) (by omega) hbk
      by_cases hm : g (s ^^^ 2 ^ k) ≤ mxs (fun p => g (s ^^^ 2 ^ p)) s k
      · have hm' : nI (g (s ^^^ 2 ^ k)) ≤ nI (mxs (fun p => g (s ^^^ 2 ^ p)) s k) := nI_le hm (by omega)
        rw [Nat.max_eq_left hm] at hrec
        simp only [z197_58, z197_59, z197_62, z197_65, z197_66, z197_68, z197_71, z197_74, z197_75, z197_76, z197_78, z197_81, z197_82, z197_83, z197_84, z197_87, z197_88, z197_89, z197_91, z197_92, z197_93, z197_94, z197_95, z197_96, z197_98, z197_100, z197_102, z197_110, z197_112, z197_114, z197_117, sm_cti, sm_ctr, sm_ctn, sm_nbi, Option.toList_some, Option.toList_none, List.cons_append, List.nil_append, ne_eq, reduceCtorEq, not_false_eq_true, Nat.reduceLeDiff, kc103, kc117, rc103, rf103_27, hM.1, e0, m_isInX _ (show k < 32 by omega), eb, hbk, m_aboveOf hb hM (show k < 8 by omega), ec, tb_p2 k (by omega), ecl, hgk, hm', k6, nI_1, y_inN (show s ^^^ 2 ^ k < 256 by omega) (by decide), nI_clamp (show s ^^^ 2 ^ k < 2 ^ 31 by omega), if_true, if_false, not_true_eq_false, not_false_eq_true, and_true, true_and, and_false, false_and, and_self, or_true, true_or, or_false, false_or, reduceIte, iff_self, Int32.add_zero, y_10, Classical.not_not]
        exact hrec _ rfl
      · have hm' : ¬ nI (g (s ^^^ 2 ^ k)) ≤ nI (mxs (fun p => g (s ^^^ 2 ^ p)) s k) := nI_ge (by omega) (by omega)
        rw [Nat.max_eq_right (by omega)] at hrec
        simp only [z197_58, z197_59, z197_62, z197_65, z197_66, z197_68, z197_71, z197_74, z197_75, z197_76, z197_78, z197_81, z197_82, z197_83, z197_84, z197_87, z197_88, z197_89, z197_91, z197_92, z197_93, z197_94, z197_95, z197_96, z197_98, z197_100, z197_102, z197_105, z197_107, z197_112, z197_114, z197_117, sm_cti, sm_ctr, sm_ctn, sm_nbi, Option.toList_some, Option.toList_none, List.cons_append, List.nil_append, ne_eq, reduceCtorEq, not_false_eq_true, Nat.reduceLeDiff, kc103, kc117, rc103, rf103_27, hM.1, e0, m_isInX _ (show k < 32 by omega), eb, hbk, m_aboveOf hb hM (show k < 8 by omega), ec, tb_p2 k (by omega), ecl, hgk, hm', k6, nI_1, y_inN (show s ^^^ 2 ^ k < 256 by omega) (by decide), nI_clamp (show s ^^^ 2 ^ k < 2 ^ 31 by omega), if_true, if_false, not_true_eq_false, not_false_eq_true, and_true, true_and, and_false, false_and, and_self, or_true, true_or, or_false, false_or, reduceIte, iff_self, Int32.add_zero, y_10, Classical.not_not]
        exact hrec _ rfl
theorem m_se_lp {I : sm_I} (hb : bdf P D f a b) (hM : mFo P D f a b I) (d n : Nat) (J : sm_J) (K : Option Value → sm_H → Prop) : ∀ (w s : Nat), s + w = 2 ^ P → 0 < s → ∀ (I1 : sm_I) (x3 x4 x5 x6 : Value), x3.category = 1 → x4.category = 1 → x5.category = 1 → x6.category = 1 → (∀ x y, ¬ (x = 117 ∧ 1 ≤ y) → I1 x y = I x y) → (∀ j, j < s → I1 117 j = nI (sv (qb (thn (clf f a b D) P)) (zb (clf f a b D) P) P j)) →
    (∀ I', (∀ x y, ¬ (x = 117 ∧ 1 ≤ y) → I' x y = I x y) → K (some (.int (nI (pc (thn (clf f a b D) P)) - nI (sv (qb (thn (clf f a b D) P)) (zb (clf f a b D) P) P (thn (clf f a b D) P))))) (sm_SH n, I', J)) →
    sm_Ok (d + 1) 197 38 [.ref 103, .int (nI (thn (clf f a b D) P)), .int (nI s), x3, x4, x5, x6] [] (sm_SH n, I1, J) K
  | 0, s, h, hs0, I1, x3, x4, x5, x6, k3, k4, k5, k6, f1, f2, hK => by
    have hs : s = 2 ^ P := by omega
    subst hs
    have hP := hb.1
    have h8 := p2_8 hP
    have e6 : I1 103 6 = nI P := by rw [f1 _ _ (by omega), hM.1]
    have ht := thn_lt (c := clf f a b D) P
    have el := f2 _ ht
    rw [z197_38]
    simp only [z197_39, z197_40, z197_41, z197_44, z197_45, z197_156, z197_157, z197_160, z197_161, z197_164, z197_165, z197_166, z197_167, sm_cti, sm_ctr, sm_ctn, sm_nbi, Option.toList_some, Option.toList_none, List.cons_append, List.nil_append, ne_eq, reduceCtorEq, not_false_eq_true, Nat.reduceLeDiff, kc103, kc117, rf103_27, e6, tb_p2 P (by omega), m_bitsOf, el, Int32.le_refl, y_inN (show thn (clf f a b D) P < 256 by omega) (by decide), nI_clamp (show thn (clf f a b D) P < 2 ^ 31 by omega), if_true, if_false, not_true_eq_false, not_false_eq_true, and_true, true_and, and_false, false_and, and_self, or_true, true_or, or_false, false_or, reduceIte, iff_self, Int32.add_zero, y_10, Classical.not_not]
    exact hK I1 f1
  | w + 1, s, h, hs0, I1, x3, x4, x5, x6, k3, k4, k5, k6, f1, f2, hK => by
    have hP := hb.1
    have h8 := p2_8 hP
    have hs : s < 256 := by omega
    have e6 : I1 103 6 = nI P := by rw [f1 _ _ (by omega), hM.1]
    have e0 : ¬ nI (2 ^ P) ≤ nI s := nI_ge (by omega) (by omega)
    have hl : ∀ j, j < s → sv (qb (thn (clf f a b D) P)) (zb (clf f a b D) P) P j ≤ 1000 := fun j hj => by
      have := sv_le (q := qb (thn (clf f a b D) P)) (z := zb (clf f a b D) P) (P := P) j
      omega
    have M1 : mFo P D f a b I1 := mFo_f hM (fun x c hx => f1 x c (by omega))
    have hv := sv_s (q := qb (thn (clf f a b D) P)) (z := zb (clf f a b D) P) (P := P) hs0
    have n0 : (0 : Int32) = nI 0 := rfl
    have hsub := nI_subset (s := s) (T := thn (clf f a b D) P) hs
    have nxt : ∀ (v : Nat) (y5 y6 : Value), y5.category = 1 → y6.category = 1 → ∀ (y3 y4 : Int32), v = sv (qb (thn (clf f a b D) P)) (zb (clf f a b D) P) P s → sm_Ok (d + 1) 197 38 [.ref 103, .int (nI (thn (clf f a b D) P)), .int (nI (s + 1)), .int y3, .int y4, y5, y6] [] (sm_SH n, sm_uI I1 117 s (nI v), J) K := fun v y5 y6 c5 c6 y3 y4 hv2 => by
      refine m_se_lp hb hM d n J K w (s + 1) (by omega) (by omega) _ _ _ y5 y6 rfl rfl c5 c6 (fun x y hx => by rw [uI_o _ _ (by omega), f1 x y hx]) (fun j hj => ?_) hK
      by_cases e : j = s
      · subst e
        rw [uI_s, hv2]
      · rw [uI_o _ _ (by omega), f2 j (by omega)]
    rw [z197_38]
    simp only [z197_39, z197_40, z197_41, z197_44, z197_45, z197_48, z197_49, z197_50, z197_51, z197_53, z197_54, sm_cti, sm_ctr, sm_ctn, sm_nbi, Option.toList_some, Option.toList_none, List.cons_append, List.nil_append, ne_eq, reduceCtorEq, not_false_eq_true, Nat.reduceLeDiff, kc103, e6, tb_p2 P (by omega), e0, k3, k4, k5, if_true, if_false, not_true_eq_false, not_false_eq_true, and_true, true_and, and_false, false_and, and_self, or_true, true_or, or_false, false_or, reduceIte, iff_self, Int32.add_zero, y_10, Classical.not_not]
    refine m_se_in hb M1 hs f2 hl _ d n J K (fun y6 c6 => ?_) P 0 (by omega) x6 k6
    cases hq : qb (thn (clf f a b D) P) s with
    | false =>
      rw [hq, if_neg (by decide)] at hv
      have hsub' : ¬ (nI s &&& (nI (thn (clf f a b D) P) ^^^ (-1)) = 0) := by
        rw [hsub, hq]
        decide
      simp only [z197_120, z197_121, z197_124, z197_125, z197_126, z197_127, z197_128, z197_129, z197_130, z197_133, z197_134, z197_149, z197_150, z197_153, sm_cti, sm_ctr, sm_ctn, sm_nbi, Option.toList_some, Option.toList_none, List.cons_append, List.nil_append, ne_eq, reduceCtorEq, not_false_eq_true, Nat.reduceLeDiff, kc103, kc117, rf103_27, hsub', nI_1, y_inN hs (by decide), nI_clamp (show s < 2 ^ 31 by omega), if_true, if_false, not_true_eq_false, not_false_eq_true, and_true, true_and, and_false, false_and, and_self, or_true, true_or, or_false, false_or, reduceIte, iff_self, Int32.add_zero, y_10, Classical.not_not]
      exact nxt 0 _ _ rfl c6 _ _ hv.symm
    | true =>
      rw [hq, if_pos rfl] at hv
      have hsub' : nI s &&& (nI (thn (clf f a b D) P) ^^^ (-1)) = 0 := by
        rw [hsub, hq]
      by_cases hz : ssum (clf f a b D) s P = 0
      · have hz1 : zb (clf f a b D) P s = true := by
          unfold zb
          rw [decide_eq_true_iff]
          exact hz
        rw [hz1, if_pos rfl] at hv
        have hz' := eq_true hz
        simp only [z197_120, z197_121, z197_124, z197_125, z197_126, z197_127, z197_128, z197_129, z197_130, z197_137, z197_139, z197_140, z197_143, z197_144, z197_148, z197_149, z197_150, z197_153, sm_cti, sm_ctr, sm_ctn, sm_nbi, Option.toList_some, Option.toList_none, List.cons_append, List.nil_append, ne_eq, reduceCtorEq, not_false_eq_true, Nat.reduceLeDiff, kc103, kc117, rf103_27, hsub', hz', nI_1, y_inN hs (by decide), nI_clamp (show s < 2 ^ 31 by omega), if_true, if_false, not_true_eq_false, not_false_eq_true, and_true, true_and, and_false, false_and, and_self, or_true, true_or, or_false, false_or, reduceIte, iff_self, Int32.add_zero, y_10, Classical.not_not]
        exact nxt _ _ _ rfl c6 _ _ hv.symm
      · have hz1 : zb (clf f a b D) P s = false := by
          unfold zb
          rw [decide_eq_false_iff_not]
          exact hz
        rw [hz1, if_neg (by decide)] at hv
        simp only [z197_120, z197_121, z197_124, z197_125, z197_126, z197_127, z197_128, z197_129, z197_130, z197_137, z197_139, z197_140, z197_147, z197_148, z197_149, z197_150, z197_153, sm_cti, sm_ctr, sm_ctn, sm_nbi, Option.toList_some, Option.toList_none, List.cons_append, List.nil_append, ne_eq, reduceCtorEq, not_false_eq_true, Nat.reduceLeDiff, kc103, kc117, rf103_27, hsub', hz, nI_1, y_inN hs (by decide), nI_clamp (show s < 2 ^ 31 by omega), if_true, if_false, not_true_eq_false, not_false_eq_true, and_true, true_and, and_false, false_and, and_self, or_true, true_or, or_false, false_or, reduceIte, iff_self, Int32.add_zero, y_10, Classical.not_not]
        exact nxt _ _ _ rfl c6 _ _ hv.symm
end
theorem Inv_117 {xs : Nat → Int32} {I I' : sm_I} {J : sm_J} (hI : Inv xs I J) (hf : ∀ x c, ¬ (x = 85 ∨ x = 86 ∨ (x = 117 ∧ 1 ≤ c)) → I' x c = I x c) : Inv xs I' J := by
  obtain ⟨P, D, B, h1, h2, h3, h4, h5, h6, h7, h8⟩ := hI
  have r117 : ∀ b, rg 117 b = 3 := fun b => rfl
  have r85 : ∀ b, rg 85 b = 0 := fun b => rfl
  have r86 : ∀ b, rg 86 b = 0 := fun b => rfl
  have e : ∀ g, g ≠ 0 → g ≠ 3 → ∀ q b, rg q b = g → I' q b = I q b := fun g hg hg3 q b hr => hf q b (fun z => by
    rcases z with rfl | rfl | ⟨rfl, z⟩
    · exact hg (by rw [← hr]; exact r85 b)
    · exact hg (by rw [← hr]; exact r86 b)
    · exact hg3 (by rw [← hr]; exact r117 b))
  refine ⟨P, D, B, iv_ro_g h1 (e 1 (by decide) (by decide)), iv_fo_g h2 (e 2 (by decide) (by decide)), ?_, iv_ta_f h4 (e 4 (by decide) (by decide)), iv_la_f h5 (e 5 (by decide) (by decide)), iv_im_g h6 (Nat.le_refl _) (Nat.le_refl _) (e 6 (by decide) (by decide)), iv_tu_g h7 (e 7 (by decide) (by decide)), iv_sh_g h8 (Nat.le_refl _) (e 8 (by decide) (by decide)) (fun _ _ _ => rfl)⟩
  obtain ⟨c, n, h1, h2, h3, h4, h5, h6, h7⟩ := h3
  refine ⟨c, n, h1, ⟨h2.1, by rw [hf _ _ (by omega), h2.2]⟩, by rw [hf _ _ (by omega), h3], by rw [hf _ _ (by omega), h4], by rw [hf _ _ (by omega), h5], by rw [hf _ _ (by omega), h6], fun j hj => ?_⟩
  obtain ⟨k, x, y, k1, k2, k3, k4, k5, k6, k7, k8, k9, k10, k11⟩ := h7 j hj
  exact ⟨k, x, y, k1, k2, k3, k4, by rw [hf _ _ (by omega), k5], by rw [hf _ _ (by omega), k6], by rw [hf _ _ (by omega), k7], by rw [hf _ _ (by omega), k8], by rw [hf _ _ (by omega), k9], by rw [hf _ _ (by omega), k10], by rw [hf _ _ (by omega), k11]⟩
theorem i32_e (x y z : Int32) : z + x - (y + z) = x - y := by grind
theorem pw_settle {n : Nat} {xs : Nat → Int32} {I : sm_I} {J : sm_J} (hI : Inv xs I J) : pw n I J 98 [.ref 26] 197 [.ref 103, .null, .null, .null, .null, .null, .null] (fun I2 J2 => Inv xs I2 J2) := by
  obtain ⟨P, D, B, i1, i2, i3, i4, i5, i6, i7, i8⟩ := id hI
  obtain ⟨f, a, b, hb, cF, cT, mF, hz⟩ := fo_pure i2
  have hP := hb.1
  have h8 := p2_8 hP
  have hp := p2_pos P
  obtain ⟨c, m, -, ⟨-, h117⟩, -⟩ := id i3
  intro d K hK
  have i0 : sm_in 0 256 = true := by decide
  have c0 : (0 : Int32).toNatClampNeg = 0 := by decide
  simp only [z98_0, z98_1, z98_4, z98_5, z98_8, z98_11, z45_0, z45_1, z45_2, sm_cti, sm_ctr, sm_ctn, sm_nbi, Option.toList_some, Option.toList_none, List.cons_append, List.nil_append, ne_eq, reduceCtorEq, not_false_eq_true, Nat.reduceLeDiff, kc26, rc84, rf26_3, rf26_10, if_true, if_false, not_true_eq_false, not_false_eq_true, and_true, true_and, and_false, false_and, and_self, or_true, true_or, or_false, false_or, reduceIte, iff_self, Int32.add_zero, y_10, Classical.not_not]
  refine c_sumUp hb cF cT (d + 197) n J _ (fun I1 w1 w2 => ?_)
  have e6 : I1 34 6 = nI P := by rw [w1 _ _ (by omega), cF.1]
  simp only [z45_5, z45_6, z45_7, z45_10, z45_13, z45_14, z45_15, z45_16, z45_19, z45_20, z45_21, z45_22, z45_23, sm_cti, sm_ctr, sm_ctn, sm_nbi, Option.toList_some, Option.toList_none, List.cons_append, List.nil_append, ne_eq, reduceCtorEq, not_false_eq_true, Nat.reduceLeDiff, kc34, kc84, kc86, rf84_0, rf84_2, e6, tb_p2 P (by omega), i0, c0, if_true, if_false, not_true_eq_false, not_false_eq_true, and_true, true_and, and_false, false_and, and_self, or_true, true_or, or_false, false_or, reduceIte, iff_self, Int32.add_zero, y_10, Classical.not_not]
  refine c_fw_lp (I := sm_uI I1 86 0 0) (c := clf f a b D) hP (by rw [uI_q _ _ (by omega), e6]) (fun s hs => by rw [uI_q _ _ (by omega), w2 s hs]) (d + 198) n J _ (2 ^ P - 1) 1 (by omega) (by omega) _ (fun _ _ _ => rfl) (fun j hj => by
    have : j = 0 := by omega
    subst this
    rw [uI_s]
    rfl) (fun I2 w3 => ?_)
  simp only [z98_0, z98_1, z98_4, z98_5, z98_8, z98_11, sm_cti, sm_ctr, sm_ctn, sm_nbi, Option.toList_some, Option.toList_none, List.cons_append, List.nil_append, ne_eq, reduceCtorEq, not_false_eq_true, Nat.reduceLeDiff, if_true, if_false, not_true_eq_false, not_false_eq_true, and_true, true_and, and_false, false_and, and_self, or_true, true_or, or_false, false_or, reduceIte, iff_self, Int32.add_zero, y_10, Classical.not_not]
  refine hK _ I2 J (fun K2 h3 => ?_)
  have t : ∀ x y, ¬ (x = 85 ∨ x = 86) → I2 x y = I x y := fun x y hx => by rw [w3 _ _ (by omega), uI_q _ _ (by omega), w1 _ _ (by omega)]
  have M2 : mFo P D f a b I2 := mFo_f mF (fun x c hx => t x c (by omega))
  rw [z197_0]
  simp only [z197_1, z197_2, z197_3, sm_cti, sm_ctr, sm_ctn, sm_nbi, Option.toList_some, Option.toList_none, List.cons_append, List.nil_append, ne_eq, reduceCtorEq, not_false_eq_true, Nat.reduceLeDiff, if_true, if_false, not_true_eq_false, not_false_eq_true, and_true, true_and, and_false, false_and, and_self, or_true, true_or, or_false, false_or, reduceIte, iff_self, Int32.add_zero, y_10, Classical.not_not]
  refine (m_th_lp hb M2 .null .null .null .null (d + 199) n J K2 P 0 (by omega)).mpr ?_
  simp only [z197_36, z197_37, sm_cti, sm_ctr, sm_ctn, sm_nbi, Option.toList_some, Option.toList_none, List.cons_append, List.nil_append, ne_eq, reduceCtorEq, not_false_eq_true, Nat.reduceLeDiff, if_true, if_false, not_true_eq_false, not_false_eq_true, and_true, true_and, and_false, false_and, and_self, or_true, true_or, or_false, false_or, reduceIte, iff_self, Int32.add_zero, y_10, Classical.not_not]
  refine m_se_lp hb M2 (d + 199) n J K2 (2 ^ P - 1) 1 (by omega) (by omega) I2 .null .null .null .null rfl rfl rfl rfl (fun _ _ _ => rfl) (fun j hj => by
    have : j = 0 := by omega
    subst this
    rw [t _ _ (by omega), h117]
    rfl) (fun I3 w4 => ?_)
  obtain ⟨s1, s2⟩ := set_all (c := clf f a b D) hP
  have hse := set_eq (c := clf f a b D) hP (2 ^ P - 1) (by omega)
  rw [s2] at hse
  have hans : nI P - nI (sv (fun _ => true) (zb (clf f a b D) P) P (2 ^ P - 1)) = nI (pc (thn (clf f a b D) P)) - nI (sv (qb (thn (clf f a b D) P)) (zb (clf f a b D) P) P (thn (clf f a b D) P)) := by
    rw [hse]
    have e1 : nI P = nI (nzc (clf f a b D) P (2 ^ P - 1)) + nI (pc (thn (clf f a b D) P)) := by rw [nI_add, s1]
    rw [e1, ← nI_add, i32_e]
  rw [← hans]
  exact h3 I3 J (Inv_117 hI (fun x c hx => by rw [w4 _ _ (by omega), t _ _ (by omega)]))
