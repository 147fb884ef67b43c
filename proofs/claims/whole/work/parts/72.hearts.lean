/-! both answer alike: hearts -/
/-- the first of k that is so; -2 -/
def hfs (ok : Nat → Bool) : Nat → Int32
  | 0 => -2
  | k + 1 => if ok k = true then (if hfs ok k = -2 then nI k else hfs ok k) else hfs ok k
theorem hfs_cnt (ok : Nat → Bool) : ∀ k, k < 2 ^ 31 → (hfs ok k = -2 ↔ cnt ok k = 0)
  | 0, _ => ⟨fun _ => rfl, fun _ => rfl⟩
  | k + 1, hk => by
    have ih := hfs_cnt ok k (by omega)
    rw [cnt_s]
    unfold hfs
    by_cases h : ok k = true
    · rw [if_pos h, if_pos h]
      by_cases h2 : hfs ok k = -2
      · rw [if_pos h2]
        refine ⟨fun z => ?_, fun z => by omega⟩
        have := nI_pos (n := k) (by omega)
        rw [z] at this
        exact absurd (by decide) this
      · rw [if_neg h2]
        exact ⟨fun z => absurd z h2, fun z => by omega⟩
    · rw [if_neg h, if_neg h, Nat.add_zero]
      exact ih
section
variable {P D : Nat} {f a b : Nat → Nat} {lo : Option ((Nat → Nat) × Nat)}
/-- the numbers, with one that is v -/
def fv (f : Nat → Nat) (q v : Nat) (k : Nat) : Nat := if k = q then v else f k
theorem fv_bd (hb : bdf P D f a b) {q v : Nat} (hv : v ≤ top q) : bdf P D (fv f q v) a b := by
  refine ⟨hb.1, hb.2.1, fun k hk => ?_, hb.2.2.2⟩
  unfold fv
  by_cases h : k = q
  · rw [if_pos h, h]
    exact hv
  · rw [if_neg h]
    exact hb.2.2.1 k hk
def hok (P D : Nat) (f a b : Nat → Nat) (lo : Option ((Nat → Nat) × Nat)) (el e2 : Nat → Int32) (m m2 q v : Nat) : Bool := decide (fno (jok P D (fv f q v) a b lo el e2 m (fv f q v)) m2 0 = -2)
theorem c_ft_lp (hb : bdf P D f a b) {s t m s2 t2 m2 : Nat} {el e2 : Nat → Int32} {I : sm_I} {J : sm_J} (hR : rowb s t m el I J) (hR2 : rowb s2 t2 m2 e2 I J) (hF : cFo P D f a b I) (hL : cLw lo I) (hT : cTa 40 f I) {ss : Int32} (e1 : ss / 10 = nI s) (e3 : ss - nI s * 10 = nI s2) {q B0 T o : Nat} (hq : (q = 36 ∧ B0 = 8 ∧ T = 9) ∨ (q = 37 ∧ B0 = 16 ∧ T = 12)) (ho : o < 8) (ls : Int32) (d n : Nat) (K : Option Value → sm_H → Prop) : ∀ (w v : Nat), v + w = T + 1 → ∀ I1 : sm_I, (∀ x c, ¬ (x = 29 ∨ x = 30 ∨ (44 ≤ x ∧ x < 48) ∨ (x = q ∧ c = o)) → I1 x c = I x c) →
    (∀ I', (∀ x c, ¬ (x = 29 ∨ x = 30 ∨ (44 ≤ x ∧ x < 48)) → I' x c = I x c) → K (some (.int (if ls = 0 then nI (cnt (hok P D f a b lo el e2 m m2 (B0 + o)) (T + 1)) else hfs (hok P D f a b lo el e2 m m2 (B0 + o)) (T + 1)))) (sm_SH n, I', J)) →
    sm_Ok (d + 6) 144 15 [.ref 26, .ref q, .int (nI o), .int (nI T), .int ss, .int ls, .int (I q o), .int (hfs (hok P D f a b lo el e2 m m2 (B0 + o)) v), .int (nI (cnt (hok P D f a b lo el e2 m m2 (B0 + o)) v)), .int (nI v)] [] (sm_SH n, I1, J) K
  | 0, v, hv, I1, f1, hK => by
    have hv : v = T + 1 := by omega
    subst hv
    have e5 : nI T < nI (T + 1) := nI_lt (by omega) (by omega)
    have kq : sm_kc q = (1, 8) := by rcases hq with ⟨rfl, -⟩ | ⟨rfl, -⟩; exact kc36; exact kc37
    have q0 : ¬ q = 0 := by omega
    have q26 : 26 ≤ q := by omega
    have fin := hK (sm_uI I1 q o (I q o)) (fun x c hx => by
      by_cases h : x = q ∧ c = o
      · rw [h.1, h.2, uI_s]
      · rw [uI_o _ _ h, f1 x c (by omega)])
    rw [z144_15]
    simp only [z144_0, z144_1, z144_2, z144_3, z144_5, z144_7, z144_9, z144_10, z144_12, z144_13, z144_17, z144_18, z144_21, z144_22, z144_23, z144_25, z144_26, z144_27, z144_29, z144_31, z144_32, z144_34, z144_36, z144_37, z144_40, z144_42, z144_45, z144_48, z144_50, z144_52, z144_55, z144_57, z144_60, z144_62, z144_64, z144_67, z144_70, z144_71, z144_72, z144_74, z144_75, z144_77, z144_80, z144_82, z144_85, z144_87, sm_cti, sm_ctr, sm_ctn, sm_nbi, Option.toList_some, Option.toList_none, List.cons_append, List.nil_append, ne_eq, reduceCtorEq, not_false_eq_true, Nat.reduceLeDiff, kq, q0, q26, e5, y_inN ho (by decide), nI_clamp (show o < 2 ^ 31 by omega), if_true, if_false, not_true_eq_false, not_false_eq_true, and_true, true_and, and_false, false_and, and_self, or_true, true_or, or_false, false_or, reduceIte, iff_self, Int32.add_zero, y_10, Classical.not_not]
    by_cases hl : ls = 0
    · rw [if_pos hl] at fin
      simp only [hl, z144_0, z144_1, z144_2, z144_3, z144_5, z144_7, z144_9, z144_10, z144_12, z144_13, z144_17, z144_18, z144_21, z144_22, z144_23, z144_25, z144_26, z144_27, z144_29, z144_31, z144_32, z144_34, z144_36, z144_37, z144_40, z144_42, z144_45, z144_48, z144_50, z144_52, z144_55, z144_57, z144_60, z144_62, z144_64, z144_67, z144_70, z144_71, z144_72, z144_74, z144_75, z144_77, z144_80, z144_82, z144_85, z144_87, sm_cti, sm_ctr, sm_ctn, sm_nbi, Option.toList_some, Option.toList_none, List.cons_append, List.nil_append, ne_eq, reduceCtorEq, not_false_eq_true, Nat.reduceLeDiff, if_true, if_false, not_true_eq_false, not_false_eq_true, and_true, true_and, and_false, false_and, and_self, or_true, true_or, or_false, false_or, reduceIte, iff_self, Int32.add_zero, y_10, Classical.not_not]
      exact fin
    · rw [if_neg hl] at fin
      simp only [hl, z144_0, z144_1, z144_2, z144_3, z144_5, z144_7, z144_9, z144_10, z144_12, z144_13, z144_17, z144_18, z144_21, z144_22, z144_23, z144_25, z144_26, z144_27, z144_29, z144_31, z144_32, z144_34, z144_36, z144_37, z144_40, z144_42, z144_45, z144_48, z144_50, z144_52, z144_55, z144_57, z144_60, z144_62, z144_64, z144_67, z144_70, z144_71, z144_72, z144_74, z144_75, z144_77, z144_80, z144_82, z144_85, z144_87, sm_cti, sm_ctr, sm_ctn, sm_nbi, Option.toList_some, Option.toList_none, List.cons_append, List.nil_append, ne_eq, reduceCtorEq, not_false_eq_true, Nat.reduceLeDiff, if_true, if_false, not_true_eq_false, not_false_eq_true, and_true, true_and, and_false, false_and, and_self, or_true, true_or, or_false, false_or, reduceIte, iff_self, Int32.add_zero, y_10, Classical.not_not]
      exact fin
  | w + 1, v, hv, I1, f1, hK => by
    have e5 : ¬ nI T < nI v := nI_nlt (by omega) (by omega)
    have kq : sm_kc q = (1, 8) := by rcases hq with ⟨rfl, -⟩ | ⟨rfl, -⟩; exact kc36; exact kc37
    have q0 : ¬ q = 0 := by omega
    have q26 : 26 ≤ q := by omega
    have t10 : ¬ (10 : Int32) = 0 := by decide
    have h8 := hb.1
    have hvt : v ≤ top (B0 + o) := by
      rcases hq with ⟨-, rfl, rfl⟩ | ⟨-, rfl, rfl⟩
      · unfold top
        rw [if_neg (by omega), if_pos (by omega)]
        omega
      · unfold top
        rw [if_neg (by omega), if_neg (by omega), if_pos (by omega)]
        omega
    have hb' := fv_bd (q := B0 + o) (v := v) hb hvt
    have hg' : bdg (fv f (B0 + o) v) := fun k k1 k2 k3 => hb'.2.2.1 k k2
    have fI : ∀ x c, ¬ (x = 29 ∨ x = 30 ∨ (44 ≤ x ∧ x < 48) ∨ (x = q ∧ c = o)) → sm_uI I1 q o (nI v) x c = I x c := fun x c hx => by rw [uI_o _ _ (by omega), f1 x c hx]
    have cF' : cFo P D (fv f (B0 + o) v) a b (sm_uI I1 q o (nI v)) := by
      obtain ⟨F1, F2, F3, F4, F5⟩ := hF
      have h0 : ∀ k, k ≠ B0 + o → fv f (B0 + o) v k = f k := fun k hk => by unfold fv; rw [if_neg hk]
      refine ⟨by rw [fI _ _ (by omega), F1], by rw [fI _ _ (by omega), F2], by rw [fI _ _ (by omega), F3, h0 52 (by omega)], fun p hp => ⟨by rw [fI _ _ (by omega), (F4 p hp).1, h0 p (by omega)], ?_, ?_⟩, fun e he => ⟨by rw [fI _ _ (by omega), (F5 e he).1], by rw [fI _ _ (by omega), (F5 e he).2]⟩⟩
      · rcases hq with ⟨rfl, rfl, rfl⟩ | ⟨rfl, rfl, rfl⟩
        · by_cases hpo : p = o
          · rw [hpo, uI_s]
            unfold fv
            rw [if_pos rfl]
          · rw [fI _ _ (by omega), (F4 p hp).2.1, h0 _ (by omega)]
        · rw [fI _ _ (by omega), (F4 p hp).2.1, h0 _ (by omega)]
      · rcases hq with ⟨rfl, rfl, rfl⟩ | ⟨rfl, rfl, rfl⟩
        · rw [fI _ _ (by omega), (F4 p hp).2.2, h0 _ (by omega)]
        · by_cases hpo : p = o
          · rw [hpo, uI_s]
            unfold fv
            rw [if_pos rfl]
          · rw [fI _ _ (by omega), (F4 p hp).2.2, h0 _ (by omega)]
    have cT' : cTa 40 (fv f (B0 + o) v) (sm_uI I1 q o (nI v)) := by
      have h0 : ∀ k, 24 ≤ k → fv f (B0 + o) v k = f k := fun k hk => by unfold fv; rw [if_neg (by omega)]
      refine ⟨fun p hp => ⟨by rw [fI _ _ (by omega), (hT.1 p hp).1, h0 _ (by omega)], by rw [fI _ _ (by omega), (hT.1 p hp).2, h0 _ (by omega)]⟩, fun e he => by rw [fI _ _ (by omega), hT.2.1 e he, h0 _ (by omega)], by rw [fI _ _ (by omega), hT.2.2, h0 _ (by omega)]⟩
    rw [z144_15]
    simp only [z144_0, z144_1, z144_2, z144_3, z144_5, z144_7, z144_9, z144_10, z144_12, z144_13, z144_17, z144_18, z144_21, z144_22, z144_23, z144_25, z144_26, z144_27, z144_29, z144_31, z144_32, z144_34, z144_36, z144_37, z144_40, z144_42, z144_45, z144_48, z144_50, z144_52, z144_55, z144_57, z144_60, z144_62, z144_64, z144_67, z144_70, z144_71, z144_72, z144_74, z144_75, z144_77, z144_80, z144_82, z144_85, z144_87, sm_cti, sm_ctr, sm_ctn, sm_nbi, Option.toList_some, Option.toList_none, List.cons_append, List.nil_append, ne_eq, reduceCtorEq, not_false_eq_true, Nat.reduceLeDiff, rc26, kq, q0, q26, e5, e1, e3, t10, y_inN ho (by decide), nI_clamp (show o < 2 ^ 31 by omega), if_true, if_false, not_true_eq_false, not_false_eq_true, and_true, true_and, and_false, false_and, and_self, or_true, true_or, or_false, false_or, reduceIte, iff_self, Int32.add_zero, y_10, Classical.not_not]
    refine c_unlike hb' (rowb_f hR (fun x c hx => fI x c (by omega))) (rowb_f hR2 (fun x c hx => fI x c (by omega))) cF' (cLw_f hL (fun x c h1 h2 => fI x c (by omega))) hg' cT' d n _ (fun I2 w2 => ?_)
    have next := c_ft_lp hb hR hR2 hF hL hT e1 e3 hq ho ls d n K w (v + 1) (by omega) I2 (fun x c hx => by rw [w2 x c (by omega), fI x c hx]) hK
    rw [cnt_s, show hfs (hok P D f a b lo el e2 m m2 (B0 + o)) (v + 1) = if hok P D f a b lo el e2 m m2 (B0 + o) v = true then (if hfs (hok P D f a b lo el e2 m m2 (B0 + o)) v = -2 then nI v else hfs (hok P D f a b lo el e2 m m2 (B0 + o)) v) else hfs (hok P D f a b lo el e2 m m2 (B0 + o)) v from rfl] at next
    simp only [z144_0, z144_1, z144_2, z144_3, z144_5, z144_7, z144_9, z144_10, z144_12, z144_13, z144_17, z144_18, z144_21, z144_22, z144_23, z144_25, z144_26, z144_27, z144_29, z144_31, z144_32, z144_34, z144_36, z144_37, z144_40, z144_42, z144_45, z144_48, z144_50, z144_52, z144_55, z144_57, z144_60, z144_62, z144_64, z144_67, z144_70, z144_71, z144_72, z144_74, z144_75, z144_77, z144_80, z144_82, z144_85, z144_87, sm_cti, sm_ctr, sm_ctn, sm_nbi, Option.toList_some, Option.toList_none, List.cons_append, List.nil_append, ne_eq, reduceCtorEq, not_false_eq_true, Nat.reduceLeDiff, nI_1, if_true, if_false, not_true_eq_false, not_false_eq_true, and_true, true_and, and_false, false_and, and_self, or_true, true_or, or_false, false_or, reduceIte, iff_self, Int32.add_zero, y_10, Classical.not_not]
    by_cases h0 : fno (jok P D (fv f (B0 + o) v) a b lo el e2 m (fv f (B0 + o) v)) m2 0 = -2
    · have hk1 : hok P D f a b lo el e2 m m2 (B0 + o) v = true := decide_eq_true h0
      simp only [if_pos hk1] at next
      rw [if_neg (fun z => z h0)]
      by_cases h1 : hfs (hok P D f a b lo el e2 m m2 (B0 + o)) v = -2
      · simp only [h1, if_true, if_false, not_true_eq_false, not_false_eq_true, and_true, true_and, and_false, false_and, and_self, or_true, true_or, or_false, false_or, reduceIte, iff_self, Int32.add_zero, y_10, Classical.not_not] at next ⊢
        exact next
      · simp only [h1, if_true, if_false, not_true_eq_false, not_false_eq_true, and_true, true_and, and_false, false_and, and_self, or_true, true_or, or_false, false_or, reduceIte, iff_self, Int32.add_zero, y_10, Classical.not_not] at next ⊢
        exact next
    · have hk1 : ¬ hok P D f a b lo el e2 m m2 (B0 + o) v = true := fun z => h0 (of_decide_eq_true z)
      simp only [if_neg hk1, Nat.add_zero] at next
      rw [if_pos h0]
      exact next
theorem c_fits (hb : bdf P D f a b) {s t m s2 t2 m2 : Nat} {el e2 : Nat → Int32} {I : sm_I} {J : sm_J} (hR : rowb s t m el I J) (hR2 : rowb s2 t2 m2 e2 I J) (hF : cFo P D f a b I) (hL : cLw lo I) (hT : cTa 40 f I) {ss : Int32} (e1 : ss / 10 = nI s) (e3 : ss - nI s * 10 = nI s2) {q B0 T o : Nat} (hq : (q = 36 ∧ B0 = 8 ∧ T = 9) ∨ (q = 37 ∧ B0 = 16 ∧ T = 12)) (ho : o < 8) (ls : Int32) (d n : Nat) (K : Option Value → sm_H → Prop)
    (hK : ∀ I', (∀ x c, ¬ (x = 29 ∨ x = 30 ∨ (44 ≤ x ∧ x < 48)) → I' x c = I x c) → K (some (.int (if ls = 0 then nI (cnt (hok P D f a b lo el e2 m m2 (B0 + o)) (T + 1)) else hfs (hok P D f a b lo el e2 m m2 (B0 + o)) (T + 1)))) (sm_SH n, I', J)) :
    sm_Ok (d + 6) 144 0 [.ref 26, .ref q, .int (nI o), .int (nI T), .int ss, .int ls, .null, .null, .null, .null] [] (sm_SH n, I, J) K := by
  have kq : sm_kc q = (1, 8) := by rcases hq with ⟨rfl, -⟩ | ⟨rfl, -⟩; exact kc36; exact kc37
  have q0 : ¬ q = 0 := by omega
  simp only [z144_0, z144_1, z144_2, z144_3, z144_5, z144_7, z144_9, z144_10, z144_12, z144_13, z144_17, z144_18, z144_21, z144_22, z144_23, z144_25, z144_26, z144_27, z144_29, z144_31, z144_32, z144_34, z144_36, z144_37, z144_40, z144_42, z144_45, z144_48, z144_50, z144_52, z144_55, z144_57, z144_60, z144_62, z144_64, z144_67, z144_70, z144_71, z144_72, z144_74, z144_75, z144_77, z144_80, z144_82, z144_85, z144_87, sm_cti, sm_ctr, sm_ctn, sm_nbi, Option.toList_some, Option.toList_none, List.cons_append, List.nil_append, ne_eq, reduceCtorEq, not_false_eq_true, Nat.reduceLeDiff, kq, q0, y_inN ho (by decide), nI_clamp (show o < 2 ^ 31 by omega), if_true, if_false, not_true_eq_false, not_false_eq_true, and_true, true_and, and_false, false_and, and_self, or_true, true_or, or_false, false_or, reduceIte, iff_self, Int32.add_zero, y_10, Classical.not_not]
  exact c_ft_lp hb hR hR2 hF hL hT e1 e3 hq ho ls d n K (T + 1) 0 (by omega) I (fun x c _ => rfl) hK
theorem m_he_lp (hb : bdf P D f a b) {s t m s2 t2 m2 : Nat} {el e2 : Nat → Int32} {I : sm_I} {J : sm_J} (hR : rowb s t m el I J) (hR2 : rowb s2 t2 m2 e2 I J) (hM : mFo P D f a b I) (hL : mLw lo I) {ss : Int32} (e1 : ss / 10 = nI s) (e2' : ss - ss / 10 * 10 = nI s2) {wh : Int32} {B0 T o : Nat} (hq : (¬ wh < 2 ∧ B0 = 8 ∧ T = 9) ∨ (wh < 2 ∧ B0 = 16 ∧ T = 12)) (ho : o < 8) (x2 : Value) (d n : Nat) (K : Option Value → sm_H → Prop) : ∀ (w v : Nat), v + w = T + 1 → ∀ I1 : sm_I, (∀ x c, ¬ ((112 ≤ x ∧ x < 117) ∨ (x = 103 ∧ 14 ≤ c ∧ c ≤ 26) ∨ (x = 104 ∧ c = B0 + o)) → I1 x c = I x c) →
    (∀ I', (∀ x c, ¬ ((112 ≤ x ∧ x < 117) ∨ (x = 103 ∧ 14 ≤ c ∧ c ≤ 26)) → I' x c = I x c) → K (some (.int (if wh - wh / 2 * 2 = 0 then nI (cnt (hok P D f a b lo el e2 m m2 (B0 + o)) (T + 1)) else hfs (hok P D f a b lo el e2 m m2 (B0 + o)) (T + 1)))) (sm_SH n, I', J)) →
    sm_Ok (d + 50) 208 81 [.ref 103, .int ss, x2, .int wh, .int (nI (B0 + o)), .int (I 104 (B0 + o)), .int (nI (cnt (hok P D f a b lo el e2 m m2 (B0 + o)) v)), .int (hfs (hok P D f a b lo el e2 m m2 (B0 + o)) v), .int (nI v)] [] (sm_SH n, I1, J) K
  | 0, v, hv, I1, f1, hK => by
    have hv : v = T + 1 := by omega
    subst hv
    have e5 : nI T < nI (T + 1) := nI_lt (by omega) (by omega)
    have t2' : ¬ (2 : Int32) = 0 := by decide
    have hB : B0 + o < 54 := by omega
    have fin := hK (sm_uI I1 104 (B0 + o) (I 104 (B0 + o))) (fun x c hx => by
      by_cases h : x = 104 ∧ c = B0 + o
      · rw [h.1, h.2, uI_s]
      · rw [uI_o _ _ h, f1 x c (by omega)])
    rw [z208_81]
    rcases hq with ⟨hw, rfl, rfl⟩ | ⟨hw, rfl, rfl⟩
    · have hw' : 2 ≤ wh := Int32.not_lt.mp hw
      have e5' : (9 : Int32) < nI (9 + 1) := by decide
      simp only [z208_0, z208_1, z208_2, z208_5, z208_6, z208_9, z208_10, z208_11, z208_12, z208_15, z208_18, z208_19, z208_20, z208_21, z208_24, z208_27, z208_30, z208_31, z208_32, z208_33, z208_34, z208_37, z208_40, z208_41, z208_42, z208_45, z208_46, z208_47, z208_48, z208_51, z208_53, z208_56, z208_58, z208_59, z208_60, z208_62, z208_63, z208_66, z208_68, z208_69, z208_71, z208_72, z208_74, z208_76, z208_78, z208_79, z208_83, z208_84, z208_85, z208_88, z208_90, z208_93, z208_95, z208_98, z208_99, z208_102, z208_104, z208_106, z208_107, z208_108, z208_109, z208_112, z208_114, z208_117, z208_119, z208_122, z208_124, z208_127, z208_129, z208_131, z208_134, z208_137, z208_140, z208_141, z208_144, z208_146, z208_148, z208_149, z208_150, z208_151, z208_152, z208_155, z208_157, z208_160, z208_162, sm_cti, sm_ctr, sm_ctn, sm_nbi, Option.toList_some, Option.toList_none, List.cons_append, List.nil_append, ne_eq, reduceCtorEq, not_false_eq_true, Nat.reduceLeDiff, kc103, kc104, rf103_0, hw', e5', t2', y_inN hB (by decide), nI_clamp (show 8 + o < 2 ^ 31 by omega), if_true, if_false, not_true_eq_false, not_false_eq_true, and_true, true_and, and_false, false_and, and_self, or_true, true_or, or_false, false_or, reduceIte, iff_self, Int32.add_zero, y_10, Classical.not_not]
      by_cases hl : wh - wh / 2 * 2 = 0
      · rw [if_pos hl] at fin
        simp only [hl, z208_0, z208_1, z208_2, z208_5, z208_6, z208_9, z208_10, z208_11, z208_12, z208_15, z208_18, z208_19, z208_20, z208_21, z208_24, z208_27, z208_30, z208_31, z208_32, z208_33, z208_34, z208_37, z208_40, z208_41, z208_42, z208_45, z208_46, z208_47, z208_48, z208_51, z208_53, z208_56, z208_58, z208_59, z208_60, z208_62, z208_63, z208_66, z208_68, z208_69, z208_71, z208_72, z208_74, z208_76, z208_78, z208_79, z208_83, z208_84, z208_85, z208_88, z208_90, z208_93, z208_95, z208_98, z208_99, z208_102, z208_104, z208_106, z208_107, z208_108, z208_109, z208_112, z208_114, z208_117, z208_119, z208_122, z208_124, z208_127, z208_129, z208_131, z208_134, z208_137, z208_140, z208_141, z208_144, z208_146, z208_148, z208_149, z208_150, z208_151, z208_152, z208_155, z208_157, z208_160, z208_162, sm_cti, sm_ctr, sm_ctn, sm_nbi, Option.toList_some, Option.toList_none, List.cons_append, List.nil_append, ne_eq, reduceCtorEq, not_false_eq_true, Nat.reduceLeDiff, if_true, if_false, not_true_eq_false, not_false_eq_true, and_true, true_and, and_false, false_and, and_self, or_true, true_or, or_false, false_or, reduceIte, iff_self, Int32.add_zero, y_10, Classical.not_not]
        exact fin
      · rw [if_neg hl] at fin
        simp only [hl, z208_0, z208_1, z208_2, z208_5, z208_6, z208_9, z208_10, z208_11, z208_12, z208_15, z208_18, z208_19, z208_20, z208_21, z208_24, z208_27, z208_30, z208_31, z208_32, z208_33, z208_34, z208_37, z208_40, z208_41, z208_42, z208_45, z208_46, z208_47, z208_48, z208_51, z208_53, z208_56, z208_58, z208_59, z208_60, z208_62, z208_63, z208_66, z208_68, z208_69, z208_71, z208_72, z208_74, z208_76, z208_78, z208_79, z208_83, z208_84, z208_85, z208_88, z208_90, z208_93, z208_95, z208_98, z208_99, z208_102, z208_104, z208_106, z208_107, z208_108, z208_109, z208_112, z208_114, z208_117, z208_119, z208_122, z208_124, z208_127, z208_129, z208_131, z208_134, z208_137, z208_140, z208_141, z208_144, z208_146, z208_148, z208_149, z208_150, z208_151, z208_152, z208_155, z208_157, z208_160, z208_162, sm_cti, sm_ctr, sm_ctn, sm_nbi, Option.toList_some, Option.toList_none, List.cons_append, List.nil_append, ne_eq, reduceCtorEq, not_false_eq_true, Nat.reduceLeDiff, if_true, if_false, not_true_eq_false, not_false_eq_true, and_true, true_and, and_false, false_and, and_self, or_true, true_or, or_false, false_or, reduceIte, iff_self, Int32.add_zero, y_10, Classical.not_not]
        exact fin
    · have hw' : ¬ 2 ≤ wh := Int32.not_le.mpr hw
      have e5' : (12 : Int32) < nI (12 + 1) := by decide
      simp only [z208_0, z208_1, z208_2, z208_5, z208_6, z208_9, z208_10, z208_11, z208_12, z208_15, z208_18, z208_19, z208_20, z208_21, z208_24, z208_27, z208_30, z208_31, z208_32, z208_33, z208_34, z208_37, z208_40, z208_41, z208_42, z208_45, z208_46, z208_47, z208_48, z208_51, z208_53, z208_56, z208_58, z208_59, z208_60, z208_62, z208_63, z208_66, z208_68, z208_69, z208_71, z208_72, z208_74, z208_76, z208_78, z208_79, z208_83, z208_84, z208_85, z208_88, z208_90, z208_93, z208_95, z208_98, z208_99, z208_102, z208_104, z208_106, z208_107, z208_108, z208_109, z208_112, z208_114, z208_117, z208_119, z208_122, z208_124, z208_127, z208_129, z208_131, z208_134, z208_137, z208_140, z208_141, z208_144, z208_146, z208_148, z208_149, z208_150, z208_151, z208_152, z208_155, z208_157, z208_160, z208_162, sm_cti, sm_ctr, sm_ctn, sm_nbi, Option.toList_some, Option.toList_none, List.cons_append, List.nil_append, ne_eq, reduceCtorEq, not_false_eq_true, Nat.reduceLeDiff, kc103, kc104, rf103_0, hw', e5', t2', y_inN hB (by decide), nI_clamp (show 16 + o < 2 ^ 31 by omega), if_true, if_false, not_true_eq_false, not_false_eq_true, and_true, true_and, and_false, false_and, and_self, or_true, true_or, or_false, false_or, reduceIte, iff_self, Int32.add_zero, y_10, Classical.not_not]
      by_cases hl : wh - wh / 2 * 2 = 0
      · rw [if_pos hl] at fin
        simp only [hl, z208_0, z208_1, z208_2, z208_5, z208_6, z208_9, z208_10, z208_11, z208_12, z208_15, z208_18, z208_19, z208_20, z208_21, z208_24, z208_27, z208_30, z208_31, z208_32, z208_33, z208_34, z208_37, z208_40, z208_41, z208_42, z208_45, z208_46, z208_47, z208_48, z208_51, z208_53, z208_56, z208_58, z208_59, z208_60, z208_62, z208_63, z208_66, z208_68, z208_69, z208_71, z208_72, z208_74, z208_76, z208_78, z208_79, z208_83, z208_84, z208_85, z208_88, z208_90, z208_93, z208_95, z208_98, z208_99, z208_102, z208_104, z208_106, z208_107, z208_108, z208_109, z208_112, z208_114, z208_117, z208_119, z208_122, z208_124, z208_127, z208_129, z208_131, z208_134, z208_137, z208_140, z208_141, z208_144, z208_146, z208_148, z208_149, z208_150, z208_151, z208_152, z208_155, z208_157, z208_160, z208_162, sm_cti, sm_ctr, sm_ctn, sm_nbi, Option.toList_some, Option.toList_none, List.cons_append, List.nil_append, ne_eq, reduceCtorEq, not_false_eq_true, Nat.reduceLeDiff, if_true, if_false, not_true_eq_false, not_false_eq_true, and_true, true_and, and_false, false_and, and_self, or_true, true_or, or_false, false_or, reduceIte, iff_self, Int32.add_zero, y_10, Classical.not_not]
        exact fin
      · rw [if_neg hl] at fin
        simp only [hl, z208_0, z208_1, z208_2, z208_5, z208_6, z208_9, z208_10, z208_11, z208_12, z208_15, z208_18, z208_19, z208_20, z208_21, z208_24, z208_27, z208_30, z208_31, z208_32, z208_33, z208_34, z208_37, z208_40, z208_41, z208_42, z208_45, z208_46, z208_47, z208_48, z208_51, z208_53, z208_56, z208_58, z208_59, z208_60, z208_62, z208_63, z208_66, z208_68, z208_69, z208_71, z208_72, z208_74, z208_76, z208_78, z208_79, z208_83, z208_84, z208_85, z208_88, z208_90, z208_93, z208_95, z208_98, z208_99, z208_102, z208_104, z208_106, z208_107, z208_108, z208_109, z208_112, z208_114, z208_117, z208_119, z208_122, z208_124, z208_127, z208_129, z208_131, z208_134, z208_137, z208_140, z208_141, z208_144, z208_146, z208_148, z208_149, z208_150, z208_151, z208_152, z208_155, z208_157, z208_160, z208_162, sm_cti, sm_ctr, sm_ctn, sm_nbi, Option.toList_some, Option.toList_none, List.cons_append, List.nil_append, ne_eq, reduceCtorEq, not_false_eq_true, Nat.reduceLeDiff, if_true, if_false, not_true_eq_false, not_false_eq_true, and_true, true_and, and_false, false_and, and_self, or_true, true_or, or_false, false_or, reduceIte, iff_self, Int32.add_zero, y_10, Classical.not_not]
        exact fin
  | w + 1, v, hv, I1, f1, hK => by
    have hB : B0 + o < 54 := by omega
    have h8 := hb.1
    have hvt : v ≤ top (B0 + o) := by
      rcases hq with ⟨-, rfl, rfl⟩ | ⟨-, rfl, rfl⟩
      · unfold top
        rw [if_neg (by omega), if_pos (by omega)]
        omega
      · unfold top
        rw [if_neg (by omega), if_neg (by omega), if_pos (by omega)]
        omega
    have hb' := fv_bd (q := B0 + o) (v := v) hb hvt
    have fI : ∀ x c, ¬ ((112 ≤ x ∧ x < 117) ∨ (x = 103 ∧ 14 ≤ c ∧ c ≤ 26) ∨ (x = 104 ∧ c = B0 + o)) → sm_uI I1 104 (B0 + o) (nI v) x c = I x c := fun x c hx => by rw [uI_o _ _ (by omega), f1 x c hx]
    have mF' : mFo P D (fv f (B0 + o) v) a b (sm_uI I1 104 (B0 + o) (nI v)) := by
      obtain ⟨M1, M2, M3, M4⟩ := hM
      refine ⟨by rw [fI _ _ (by omega), M1], by rw [fI _ _ (by omega), M2], fun k hk => ?_, fun e he => ⟨by rw [fI _ _ (by omega), (M4 e he).1], by rw [fI _ _ (by omega), (M4 e he).2]⟩⟩
      unfold fv
      by_cases h : k = B0 + o
      · rw [if_pos h, h, uI_s]
      · rw [if_neg h, fI _ _ (by omega), M3 k hk]
    have go : ∀ K3 : Option Value → sm_H → Prop, (∀ I2 : sm_I, (∀ x c, ¬ ((112 ≤ x ∧ x < 117) ∨ (x = 103 ∧ 14 ≤ c ∧ c ≤ 26) ∨ (x = 104 ∧ c = B0 + o)) → I2 x c = I x c) → K3 (some (.int (fno (jok P D (fv f (B0 + o) v) a b lo el e2 m (fv f (B0 + o) v)) m2 0))) (sm_SH n, I2, J)) → sm_Ok (d + 49) 206 0 [.ref 103, .int ss, .null] [] (sm_SH n, sm_uI I1 104 (B0 + o) (nI v), J) K3 := fun K3 h3 => m_false hb' (rowb_f hR (fun x c hx => fI x c (by omega))) (rowb_f hR2 (fun x c hx => fI x c (by omega))) mF' (mLw_f hL (fun x c hx => fI x c (by omega))) e1 e2' d n K3 (fun I2 w2 => h3 I2 (fun x c hx => by rw [w2 x c (by omega), fI x c hx]))
    have fin : ∀ I2 : sm_I, (∀ x c, ¬ ((112 ≤ x ∧ x < 117) ∨ (x = 103 ∧ 14 ≤ c ∧ c ≤ 26) ∨ (x = 104 ∧ c = B0 + o)) → I2 x c = I x c) → sm_Ok (d + 50) 208 112 [.ref 103, .int ss, x2, .int wh, .int (nI (B0 + o)), .int (I 104 (B0 + o)), .int (nI (cnt (hok P D f a b lo el e2 m m2 (B0 + o)) v)), .int (hfs (hok P D f a b lo el e2 m m2 (B0 + o)) v), .int (nI v)] [.int (fno (jok P D (fv f (B0 + o) v) a b lo el e2 m (fv f (B0 + o) v)) m2 0)] (sm_SH n, I2, J) K := by
      intro I2 f2
      have next := m_he_lp hb hR hR2 hM hL e1 e2' hq ho x2 d n K w (v + 1) (by omega) I2 f2 hK
      rw [cnt_s, show hfs (hok P D f a b lo el e2 m m2 (B0 + o)) (v + 1) = if hok P D f a b lo el e2 m m2 (B0 + o) v = true then (if hfs (hok P D f a b lo el e2 m m2 (B0 + o)) v = -2 then nI v else hfs (hok P D f a b lo el e2 m m2 (B0 + o)) v) else hfs (hok P D f a b lo el e2 m m2 (B0 + o)) v from rfl] at next
      have hc := hfs_cnt (hok P D f a b lo el e2 m m2 (B0 + o)) v (by omega)
      have hcl := cnt_le (hok P D f a b lo el e2 m m2 (B0 + o)) v
      have ec : (nI (cnt (hok P D f a b lo el e2 m m2 (B0 + o)) v) = 0) = (hfs (hok P D f a b lo el e2 m m2 (B0 + o)) v = -2) := propext (Iff.trans (nI_eq (b := 0) (by omega) (by decide)) hc.symm)
      simp only [z208_112, z208_114, z208_117, z208_119, z208_122, z208_124, z208_127, z208_129, z208_131, z208_134, z208_137, sm_cti, sm_ctr, sm_ctn, sm_nbi, Option.toList_some, Option.toList_none, List.cons_append, List.nil_append, ne_eq, reduceCtorEq, not_false_eq_true, Nat.reduceLeDiff, nI_1, ec, if_true, if_false, not_true_eq_false, not_false_eq_true, and_true, true_and, and_false, false_and, and_self, or_true, true_or, or_false, false_or, reduceIte, iff_self, Int32.add_zero, y_10, Classical.not_not]
      by_cases h0 : fno (jok P D (fv f (B0 + o) v) a b lo el e2 m (fv f (B0 + o) v)) m2 0 = -2
      · have hk1 : hok P D f a b lo el e2 m m2 (B0 + o) v = true := decide_eq_true h0
        simp only [if_pos hk1] at next
        rw [if_neg (fun z => z h0)]
        by_cases h1 : hfs (hok P D f a b lo el e2 m m2 (B0 + o)) v = -2
        · simp only [h1, if_true, if_false, not_true_eq_false, not_false_eq_true, and_true, true_and, and_false, false_and, and_self, or_true, true_or, or_false, false_or, reduceIte, iff_self, Int32.add_zero, y_10, Classical.not_not] at next ⊢
          exact next
        · simp only [h1, if_true, if_false, not_true_eq_false, not_false_eq_true, and_true, true_and, and_false, false_and, and_self, or_true, true_or, or_false, false_or, reduceIte, iff_self, Int32.add_zero, y_10, Classical.not_not] at next ⊢
          exact next
      · have hk1 : ¬ hok P D f a b lo el e2 m m2 (B0 + o) v = true := fun z => h0 (of_decide_eq_true z)
        simp only [if_neg hk1, Nat.add_zero] at next
        rw [if_pos h0]
        exact next
    rw [z208_81]
    rcases hq with ⟨hw, rfl, rfl⟩ | ⟨hw, rfl, rfl⟩
    · have hw' : 2 ≤ wh := Int32.not_lt.mp hw
      have e5' : ¬ (9 : Int32) < nI v := nI_nlt (a := 9) (by omega) (by decide)
      simp only [z208_83, z208_84, z208_85, z208_88, z208_90, z208_93, z208_95, z208_98, z208_99, z208_102, z208_104, z208_106, z208_107, z208_108, z208_109, sm_cti, sm_ctr, sm_ctn, sm_nbi, Option.toList_some, Option.toList_none, List.cons_append, List.nil_append, ne_eq, reduceCtorEq, not_false_eq_true, Nat.reduceLeDiff, kc103, kc104, rc103, rf103_0, hw', e5', y_inN hB (by decide), nI_clamp (show 8 + o < 2 ^ 31 by omega), if_true, if_false, not_true_eq_false, not_false_eq_true, and_true, true_and, and_false, false_and, and_self, or_true, true_or, or_false, false_or, reduceIte, iff_self, Int32.add_zero, y_10, Classical.not_not]
      exact go _ (fun I2 f2 => fin I2 f2)
    · have hw' : ¬ 2 ≤ wh := Int32.not_le.mpr hw
      have e5' : ¬ (12 : Int32) < nI v := nI_nlt (a := 12) (by omega) (by decide)
      simp only [z208_83, z208_84, z208_85, z208_88, z208_90, z208_93, z208_95, z208_98, z208_99, z208_102, z208_104, z208_106, z208_107, z208_108, z208_109, sm_cti, sm_ctr, sm_ctn, sm_nbi, Option.toList_some, Option.toList_none, List.cons_append, List.nil_append, ne_eq, reduceCtorEq, not_false_eq_true, Nat.reduceLeDiff, kc103, kc104, rc103, rf103_0, hw', e5', y_inN hB (by decide), nI_clamp (show 16 + o < 2 ^ 31 by omega), if_true, if_false, not_true_eq_false, not_false_eq_true, and_true, true_and, and_false, false_and, and_self, or_true, true_or, or_false, false_or, reduceIte, iff_self, Int32.add_zero, y_10, Classical.not_not]
      exact go _ (fun I2 f2 => fin I2 f2)
end
