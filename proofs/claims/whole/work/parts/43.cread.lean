/-! how the class reads a text -/
theorem uI_uI (I : sm_I) (q k : Nat) (v w : Int32) : sm_uI (sm_uI I q k v) q k w = sm_uI I q k w := by
  funext a b
  unfold sm_uI
  by_cases h : a = q ∧ b = k
  · rw [if_pos h, if_pos h]
  · rw [if_neg h, if_neg h, if_neg h]
theorem iv_ro_f {xs : Nat → Int32} {I I' : sm_I} (h : iv_ro xs I) (hf : ∀ x b, x < 26 → I' x b = I x b) : iv_ro xs I' := fun q b hq => by rw [hf q b hq, h q b hq]
section
variable {t : Nat → Nat} {N : Nat} {xs : Nat → Int32}
theorem ctp_f {I I' : sm_I} (h : ctp t N I) (h2 : I' 31 2 = I 31 2) (h3 : ∀ b, I' 33 b = I 33 b) : ctp t N I' := ⟨h.1, by rw [h2, h.2.1], fun j hj => ⟨(h.2.2 j hj).1, by rw [h3, (h.2.2 j hj).2]⟩⟩
/-- what a reading leaves: place a, whether it went wrong, steps c behind the w that were -/
def cpo (w a : Nat) (wr : Bool) (c : List Int32) (I I' : sm_I) : Prop :=
  (∀ x b, ¬ (x = 31 ∨ x = 32) → I' x b = I x b) ∧ I' 31 2 = I 31 2 ∧ I' 31 4 = nI a ∧ I' 31 5 = I 31 5 ∧ (wr = true → I' 31 6 = 1)
  ∧ (wr = false → I' 31 6 = 0 ∧ I' 31 1 = nI (w + c.length) ∧ (∀ j, j < w → I' 32 j = I 32 j) ∧ ∀ j, j < c.length → I' 32 (w + j) = c.getD j 0)
theorem cpo_ro {w a : Nat} {wr : Bool} {c : List Int32} {I I' : sm_I} (h : cpo w a wr c I I') (hr : iv_ro xs I) : iv_ro xs I' := iv_ro_f hr (fun x b hx => h.1 x b (by omega))
theorem cpo_tp {w a : Nat} {wr : Bool} {c : List Int32} {I I' : sm_I} (h : cpo w a wr c I I') (hr : ctp t N I) : ctp t N I' := ctp_f hr h.2.1 (fun b => h.1 33 b (by omega))
theorem cpo_tr {w a1 a2 w1 : Nat} {wr : Bool} {c1 c2 : List Int32} {I I1 I2 : sm_I} (h1 : cpo w a1 false c1 I I1) (hw : w1 = w + c1.length) (h2 : cpo w1 a2 wr c2 I1 I2) : cpo w a2 wr (c1 ++ c2) I I2 := by
  subst hw
  obtain ⟨f1, f2, f3, f4, f5, f6⟩ := h1
  obtain ⟨g1, g2, g3, g4, g5, g6⟩ := h2
  obtain ⟨k1, k2, k3, k4⟩ := f6 rfl
  refine ⟨fun x b h => by rw [g1 x b h, f1 x b h], by rw [g2, f2], g3, by rw [g4, f4], g5, fun hw => ?_⟩
  obtain ⟨l1, l2, l3, l4⟩ := g6 hw
  refine ⟨l1, by rw [l2, List.length_append, Nat.add_assoc], fun j hj => by rw [l3 j (by omega), k3 j hj], fun j hj => ?_⟩
  rw [List.length_append] at hj
  by_cases hc : j < c1.length
  · rw [l3 _ (by omega), k4 j hc, gD_l hc]
  · have e : w + j = w + c1.length + (j - c1.length) := by omega
    rw [e, l4 _ (by omega), gD_r (by omega)]
theorem cpo_at {w a : Nat} {I : sm_I} (hW : I 31 6 = 0) (hw : I 31 1 = nI w) : cpo w a false [] I (sm_uI I 31 4 (nI a)) := by
  refine ⟨fun x b h => uI_q _ _ (by omega), uI_o _ _ (by omega), uI_s _ _ _ _, uI_o _ _ (by omega), (fun h => by cases h), fun _ => ⟨by rw [uI_o _ _ (by omega), hW], by rw [uI_o _ _ (by omega), hw]; rfl, fun j hj => uI_q _ _ (by omega), fun j hj => absurd hj (Nat.not_lt_zero _)⟩⟩
theorem cpo_id {w a : Nat} {I : sm_I} (ha : I 31 4 = nI a) (hW : I 31 6 = 0) (hw : I 31 1 = nI w) : cpo w a false [] I I := by
  refine ⟨fun x b h => rfl, rfl, ha, rfl, (fun h => by cases h), fun _ => ⟨hW, hw, fun j hj => rfl, fun j hj => absurd hj (Nat.not_lt_zero _)⟩⟩
theorem cpo_wr {w a : Nat} {I : sm_I} (c : List Int32) (hA : I 31 4 = nI a) : cpo w a true c I (sm_uI I 31 6 1) :=
  ⟨fun x b h => uI_q _ _ (by omega), uI_o _ _ (by omega), by rw [uI_o _ _ (by omega), hA], uI_o _ _ (by omega), fun _ => uI_s _ _ _ _, fun h => by cases h⟩
theorem cpo_em {w a : Nat} {I : sm_I} (hA : I 31 4 = nI a) (hW : I 31 6 = 0) (v : Int32) : cpo w a false [v] I (sm_uI (sm_uI I 32 w v) 31 1 (nI (w + 1))) := by
  refine ⟨fun x b h => by rw [uI_q _ _ (by omega), uI_q _ _ (by omega)], by rw [uI_o _ _ (by omega), uI_q _ _ (by omega)], by rw [uI_o _ _ (by omega), uI_q _ _ (by omega), hA], by rw [uI_o _ _ (by omega), uI_q _ _ (by omega)], (fun h => by cases h), fun _ => ⟨by rw [uI_o _ _ (by omega), uI_q _ _ (by omega), hW], uI_s _ _ _ _, fun j hj => by rw [uI_q _ _ (by omega), uI_o _ _ (by omega)], fun j hj => ?_⟩⟩
  have hj0 : j = 0 := by
    have : ([v] : List Int32).length = 1 := rfl
    omega
  subst hj0
  rw [uI_q _ _ (by omega)]
  exact uI_s _ _ _ _
theorem cpo_cw {w a : Nat} {c c' : List Int32} {I I' : sm_I} (h : cpo w a true c I I') : cpo w a true c' I I' := ⟨h.1, h.2.1, h.2.2.1, h.2.2.2.1, h.2.2.2.2.1, fun z => by cases z⟩
theorem c_num_lp {I : sm_I} (hR : iv_ro xs I) (hT : ctp t N I) (hW : I 31 6 = 0) (d n : Nat) (J : sm_J) (K : Option Value → sm_H → Prop) : ∀ (j k a v : Nat), k + j = 4 → a ≤ N → ∀ (dg : Int32) (b : Nat),
    ((dg = nI (t a) ∧ b = a + 1 ∧ 0 < j ∧ a < N ∧ 48 ≤ t a ∧ t a ≤ 57) ∨ (dg = 0 ∧ b = a ∧ ¬ (0 < j ∧ a < N ∧ 48 ≤ t a ∧ t a ≤ 57))) →
    (∀ x3 x4 : Int32, sm_Ok (d + 7) 38 59 [.ref 31, .int (nI (pn t N j a v).2), .int (nI (k + ((pn t N j a v).1 - a))), .int x3, .int x4] [] (sm_SH n, sm_uI I 31 4 (nI (pn t N j a v).1), J) K) →
    sm_Ok (d + 7) 38 14 [.ref 31, .int (nI v), .int (nI k), .int dg, .int (nI k)] [] (sm_SH n, sm_uI I 31 4 (nI b), J) K
  | 0, k, a, v, hk, ha, dg, b, hc, hK => by
    rcases hc with ⟨-, -, h0, -⟩ | ⟨rfl, rfl, -⟩
    · exact absurd h0 (Nat.lt_irrefl 0)
    · have h4 : (4 : Int32) ≤ nI k := nI_le (a := 4) (b := k) (by omega) (by omega)
      rw [z38_14]
      simp only [z38_0, z38_1, z38_2, z38_3, z38_4, z38_5, z38_7, z38_10, z38_11, z38_12, z38_16, z38_17, z38_20, z38_21, z38_24, z38_25, z38_27, z38_28, z38_29, z38_30, z38_32, z38_33, z38_34, z38_37, z38_38, z38_39, z38_42, z38_43, z38_45, z38_48, z38_51, z38_52, z38_53, z38_56, z38_59, z38_60, z38_61, z38_64, z38_67, z38_68, z38_71, z38_72, z38_75, z38_76, z38_79, z38_80, z38_83, z38_84, z38_85, z38_88, sm_cti, sm_ctr, sm_ctn, sm_nbi, Option.toList_some, Option.toList_none, List.cons_append, List.nil_append, ne_eq, reduceCtorEq, not_false_eq_true, Nat.reduceLeDiff, h4, if_true, if_false, not_true_eq_false, not_false_eq_true, and_true, true_and, and_false, false_and, and_self, or_true, true_or, or_false, false_or, reduceIte, iff_self, Int32.add_zero, y_10, Classical.not_not]
      have := hK 0 (nI k)
      simp only [pn, Nat.sub_self, Nat.add_zero] at this
      simpa only [z38_0, z38_1, z38_2, z38_3, z38_4, z38_5, z38_7, z38_10, z38_11, z38_12, z38_16, z38_17, z38_20, z38_21, z38_24, z38_25, z38_27, z38_28, z38_29, z38_30, z38_32, z38_33, z38_34, z38_37, z38_38, z38_39, z38_42, z38_43, z38_45, z38_48, z38_51, z38_52, z38_53, z38_56, z38_59, z38_60, z38_61, z38_64, z38_67, z38_68, z38_71, z38_72, z38_75, z38_76, z38_79, z38_80, z38_83, z38_84, z38_85, z38_88, sm_cti, sm_ctr, sm_ctn, sm_nbi, Option.toList_some, Option.toList_none, List.cons_append, List.nil_append, ne_eq, reduceCtorEq, not_false_eq_true, Nat.reduceLeDiff, if_true, if_false, not_true_eq_false, not_false_eq_true, and_true, true_and, and_false, false_and, and_self, or_true, true_or, or_false, false_or, reduceIte, iff_self, Int32.add_zero, y_10, Classical.not_not] using this
  | j + 1, k, a, v, hk, ha, dg, b, hc, hK => by
    have h4 : ¬ (4 : Int32) ≤ nI k := nI_ge (a := k) (b := 4) (by omega) (by decide)
    rcases hc with ⟨rfl, rfl, -, h1, h2, h3⟩ | ⟨rfl, hb, hn⟩
    · have ht : ¬ nI (t a) = 0 := nI_ne0 (by omega) (by omega)
      have ev : nI v * 10 + nI (t a) - 48 = nI (10 * v + (t a - 48)) := by
        rw [show (10 : Int32) = nI 10 from rfl, nI_mul, nI_add, show (48 : Int32) = nI 48 from rfl, nI_sub (by omega)]
        congr 1
        omega
      have hp : pn t N (j + 1) a v = pn t N j (a + 1) (10 * v + (t a - 48)) := by
        rw [pn, if_pos ⟨h1, h2, h3⟩]
      have hle := pn_le t N j (a + 1) (10 * v + (t a - 48)) (by omega)
      rw [hp] at hK
      have eK : k + ((pn t N j (a + 1) (10 * v + (t a - 48))).1 - a) = k + 1 + ((pn t N j (a + 1) (10 * v + (t a - 48))).1 - (a + 1)) := by omega
      rw [eK] at hK
      rw [z38_14]
      simp only [z38_0, z38_1, z38_2, z38_3, z38_4, z38_5, z38_7, z38_10, z38_11, z38_12, z38_16, z38_17, z38_20, z38_21, z38_24, z38_25, z38_27, z38_28, z38_29, z38_30, z38_32, z38_33, z38_34, z38_37, z38_38, z38_39, z38_42, z38_43, z38_45, z38_48, z38_51, z38_52, z38_53, z38_56, z38_59, z38_60, z38_61, z38_64, z38_67, z38_68, z38_71, z38_72, z38_75, z38_76, z38_79, z38_80, z38_83, z38_84, z38_85, z38_88, sm_cti, sm_ctr, sm_ctn, sm_nbi, Option.toList_some, Option.toList_none, List.cons_append, List.nil_append, ne_eq, reduceCtorEq, not_false_eq_true, Nat.reduceLeDiff, h4, ht, ev, nI_1, if_true, if_false, not_true_eq_false, not_false_eq_true, and_true, true_and, and_false, false_and, and_self, or_true, true_or, or_false, false_or, reduceIte, iff_self, Int32.add_zero, y_10, Classical.not_not]
      by_cases hj : j = 0
      · subst hj
        have h5 : (4 : Int32) ≤ nI (k + 1) := nI_le (a := 4) (b := k + 1) (by omega) (by omega)
        simp only [h5, if_true, if_false, not_true_eq_false, not_false_eq_true, and_true, true_and, and_false, false_and, and_self, or_true, true_or, or_false, false_or, reduceIte, iff_self, Int32.add_zero, y_10, Classical.not_not]
        exact c_num_lp hR hT hW d n J K 0 (k + 1) (a + 1) _ (by omega) (by omega) 0 (a + 1) (Or.inr ⟨rfl, rfl, fun z => absurd z.1 (Nat.lt_irrefl 0)⟩) hK
      · have h5 : ¬ (4 : Int32) ≤ nI (k + 1) := nI_ge (a := k + 1) (b := 4) (by omega) (by decide)
        have hR' : iv_ro xs (sm_uI I 31 4 (nI (a + 1))) := iv_ro_f hR (fun x b hx => uI_q _ _ (by omega))
        have hT' : ctp t N (sm_uI I 31 4 (nI (a + 1))) := ctp_f hT (uI_o _ _ (by omega)) (fun b => uI_q _ _ (by omega))
        have sk := fun K => c_skip hR' hT' d n J K (i := 10) (a := a + 1) (by decide) (by omega) (uI_s _ _ _ _) (by rw [uI_o _ _ (by omega), hW])
        simp only [Nat.reduceAdd] at sk
        simp only [z38_0, z38_1, z38_2, z38_3, z38_4, z38_5, z38_7, z38_10, z38_11, z38_12, z38_16, z38_17, z38_20, z38_21, z38_24, z38_25, z38_27, z38_28, z38_29, z38_30, z38_32, z38_33, z38_34, z38_37, z38_38, z38_39, z38_42, z38_43, z38_45, z38_48, z38_51, z38_52, z38_53, z38_56, z38_59, z38_60, z38_61, z38_64, z38_67, z38_68, z38_71, z38_72, z38_75, z38_76, z38_79, z38_80, z38_83, z38_84, z38_85, z38_88, sm_cti, sm_ctr, sm_ctn, sm_nbi, Option.toList_some, Option.toList_none, List.cons_append, List.nil_append, ne_eq, reduceCtorEq, not_false_eq_true, Nat.reduceLeDiff, h5, rc31, sk, uI_uI, nI_1, if_true, if_false, not_true_eq_false, not_false_eq_true, and_true, true_and, and_false, false_and, and_self, or_true, true_or, or_false, false_or, reduceIte, iff_self, Int32.add_zero, y_10, Classical.not_not]
        by_cases hd : a + 1 < N ∧ tx 10 (t (a + 1)) = true
        · rw [if_pos hd]
          have hx := hd.2
          simp only [tx, Bool.and_eq_true, decide_eq_true_eq] at hx
          exact c_num_lp hR hT hW d n J K j (k + 1) (a + 1) _ (by omega) (by omega) _ (a + 2) (Or.inl ⟨rfl, rfl, by omega, hd.1, hx.1, hx.2⟩) hK
        · rw [if_neg hd]
          refine c_num_lp hR hT hW d n J K j (k + 1) (a + 1) _ (by omega) (by omega) _ (a + 1) (Or.inr ⟨rfl, rfl, fun z => hd ⟨z.2.1, ?_⟩⟩) hK
          simp only [tx, Bool.and_eq_true, decide_eq_true_eq]
          exact z.2.2
    · have hb' := hb.symm
      subst hb'
      have hp : pn t N (j + 1) a v = (a, v) := by
        rw [pn, if_neg (fun z => hn ⟨by omega, z⟩)]
      rw [hp] at hK
      have := hK 0 (nI k)
      simp only [Nat.sub_self, Nat.add_zero] at this
      rw [z38_14]
      simp only [z38_0, z38_1, z38_2, z38_3, z38_4, z38_5, z38_7, z38_10, z38_11, z38_12, z38_16, z38_17, z38_20, z38_21, z38_24, z38_25, z38_27, z38_28, z38_29, z38_30, z38_32, z38_33, z38_34, z38_37, z38_38, z38_39, z38_42, z38_43, z38_45, z38_48, z38_51, z38_52, z38_53, z38_56, z38_59, z38_60, z38_61, z38_64, z38_67, z38_68, z38_71, z38_72, z38_75, z38_76, z38_79, z38_80, z38_83, z38_84, z38_85, z38_88, sm_cti, sm_ctr, sm_ctn, sm_nbi, Option.toList_some, Option.toList_none, List.cons_append, List.nil_append, ne_eq, reduceCtorEq, not_false_eq_true, Nat.reduceLeDiff, h4, if_true, if_false, not_true_eq_false, not_false_eq_true, and_true, true_and, and_false, false_and, and_self, or_true, true_or, or_false, false_or, reduceIte, iff_self, Int32.add_zero, y_10, Classical.not_not]
      simpa only [z38_0, z38_1, z38_2, z38_3, z38_4, z38_5, z38_7, z38_10, z38_11, z38_12, z38_16, z38_17, z38_20, z38_21, z38_24, z38_25, z38_27, z38_28, z38_29, z38_30, z38_32, z38_33, z38_34, z38_37, z38_38, z38_39, z38_42, z38_43, z38_45, z38_48, z38_51, z38_52, z38_53, z38_56, z38_59, z38_60, z38_61, z38_64, z38_67, z38_68, z38_71, z38_72, z38_75, z38_76, z38_79, z38_80, z38_83, z38_84, z38_85, z38_88, sm_cti, sm_ctr, sm_ctn, sm_nbi, Option.toList_some, Option.toList_none, List.cons_append, List.nil_append, ne_eq, reduceCtorEq, not_false_eq_true, Nat.reduceLeDiff, if_true, if_false, not_true_eq_false, not_false_eq_true, and_true, true_and, and_false, false_and, and_self, or_true, true_or, or_false, false_or, reduceIte, iff_self, Int32.add_zero, y_10, Classical.not_not] using this
theorem c_number {I : sm_I} (hR : iv_ro xs I) (hT : ctp t N I) (hW : I 31 6 = 0) (d n : Nat) (J : sm_J) (K : Option Value → sm_H → Prop) {a w : Nat} (ha : a ≤ N) (hw : w ≤ 2 * a + 2) (hA : I 31 4 = nI a) (hw1 : I 31 1 = nI w)
    (hK : ∀ I', (if (pn t N 4 a 0).1 = a then cpo w a true [] I I' else cpo w (pn t N 4 a 0).1 false [nI (512 + (pn t N 4 a 0).2)] I I') → K none (sm_SH n, I', J)) : sm_Ok (d + 7) 38 0 [.ref 31, .null, .null, .null, .null] [] (sm_SH n, I, J) K := by
  have hN := hT.1
  have hle := pn_le t N 4 a 0 ha
  have hlp := c_num_lp hR hT hW d n J K 4 0 a 0 (by omega) ha
  have hend : ∀ x3 x4 : Int32, sm_Ok (d + 7) 38 59 [.ref 31, .int (nI (pn t N 4 a 0).2), .int (nI (0 + ((pn t N 4 a 0).1 - a))), .int x3, .int x4] [] (sm_SH n, sm_uI I 31 4 (nI (pn t N 4 a 0).1), J) K := by
    intro x3 x4
    have hW' : sm_uI I 31 4 (nI (pn t N 4 a 0).1) 31 6 = 0 := by rw [uI_o _ _ (by omega), hW]
    have hw' : sm_uI I 31 4 (nI (pn t N 4 a 0).1) 31 1 = nI w := by rw [uI_o _ _ (by omega), hw1]
    by_cases he : (pn t N 4 a 0).1 = a
    · simp only [if_pos he] at hK
      have e0 : nI (0 + ((pn t N 4 a 0).1 - a)) = 0 := by rw [he, Nat.sub_self]; rfl
      have e1 : (1 : Int32) = 0 ∨ (1 : Int32) = 1 := Or.inr rfl
      simp only [z38_0, z38_1, z38_2, z38_3, z38_4, z38_5, z38_7, z38_10, z38_11, z38_12, z38_16, z38_17, z38_20, z38_21, z38_24, z38_25, z38_27, z38_28, z38_29, z38_30, z38_32, z38_33, z38_34, z38_37, z38_38, z38_39, z38_42, z38_43, z38_45, z38_48, z38_51, z38_52, z38_53, z38_56, z38_59, z38_60, z38_61, z38_64, z38_67, z38_68, z38_71, z38_72, z38_75, z38_76, z38_79, z38_80, z38_83, z38_84, z38_85, z38_88, sm_cti, sm_ctr, sm_ctn, sm_nbi, Option.toList_some, Option.toList_none, List.cons_append, List.nil_append, ne_eq, reduceCtorEq, not_false_eq_true, Nat.reduceLeDiff, kc31, rc31, hW', e0, e1, c_emitW (I := sm_uI (sm_uI I 31 4 (nI (pn t N 4 a 0).1)) 31 6 1) _ _ _ _ (uI_s _ _ _ _), if_true, if_false, not_true_eq_false, not_false_eq_true, and_true, true_and, and_false, false_and, and_self, or_true, true_or, or_false, false_or, reduceIte, iff_self, Int32.add_zero, y_10, Classical.not_not]
      rw [he]
      refine hK _ ?_
      exact cpo_cw (cpo_tr (cpo_at (a := a) hW hw1) rfl (cpo_wr [] (uI_s _ _ _ _)))
    · simp only [if_neg he] at hK
      have e0 : ¬ nI (0 + ((pn t N 4 a 0).1 - a)) = 0 := nI_ne0 (by omega) (by omega)
      have e1 : (0 : Int32) = 0 ∨ (0 : Int32) = 1 := Or.inl rfl
      have e2 : (512 : Int32) + nI (pn t N 4 a 0).2 = nI (512 + (pn t N 4 a 0).2) := nI_add 512 _
      have e3 : sm_uI (sm_uI I 31 4 (nI (pn t N 4 a 0).1)) 31 6 0 = sm_uI I 31 4 (nI (pn t N 4 a 0).1) := by
        funext x b
        rw [uI_at]
        by_cases h : x = 31 ∧ b = 6
        · rw [if_pos h, h.1, h.2, hW']
        · rw [if_neg h]
      simp only [z38_0, z38_1, z38_2, z38_3, z38_4, z38_5, z38_7, z38_10, z38_11, z38_12, z38_16, z38_17, z38_20, z38_21, z38_24, z38_25, z38_27, z38_28, z38_29, z38_30, z38_32, z38_33, z38_34, z38_37, z38_38, z38_39, z38_42, z38_43, z38_45, z38_48, z38_51, z38_52, z38_53, z38_56, z38_59, z38_60, z38_61, z38_64, z38_67, z38_68, z38_71, z38_72, z38_75, z38_76, z38_79, z38_80, z38_83, z38_84, z38_85, z38_88, sm_cti, sm_ctr, sm_ctn, sm_nbi, Option.toList_some, Option.toList_none, List.cons_append, List.nil_append, ne_eq, reduceCtorEq, not_false_eq_true, Nat.reduceLeDiff, kc31, rc31, hW', e0, e1, e2, e3, c_emit _ _ _ _ (show w < 256 by omega) hw' hW', if_true, if_false, not_true_eq_false, not_false_eq_true, and_true, true_and, and_false, false_and, and_self, or_true, true_or, or_false, false_or, reduceIte, iff_self, Int32.add_zero, y_10, Classical.not_not]
      refine hK _ ?_
      exact cpo_tr (cpo_at (a := (pn t N 4 a 0).1) hW hw1) rfl (cpo_em (uI_s _ _ _ _) hW' _)
  have sk := fun K => c_skip hR hT d n J K (i := 10) (a := a) (by decide) ha hA hW
  simp only [Nat.reduceAdd] at sk
  have eI : sm_uI I 31 4 (nI a) = I := by
    funext x b
    rw [uI_at]
    by_cases h : x = 31 ∧ b = 4
    · rw [if_pos h, h.1, h.2, hA]
    · rw [if_neg h]
  simp only [z38_0, z38_1, z38_2, z38_3, z38_4, z38_5, z38_7, z38_10, z38_11, z38_12, z38_16, z38_17, z38_20, z38_21, z38_24, z38_25, z38_27, z38_28, z38_29, z38_30, z38_32, z38_33, z38_34, z38_37, z38_38, z38_39, z38_42, z38_43, z38_45, z38_48, z38_51, z38_52, z38_53, z38_56, z38_59, z38_60, z38_61, z38_64, z38_67, z38_68, z38_71, z38_72, z38_75, z38_76, z38_79, z38_80, z38_83, z38_84, z38_85, z38_88, sm_cti, sm_ctr, sm_ctn, sm_nbi, Option.toList_some, Option.toList_none, List.cons_append, List.nil_append, ne_eq, reduceCtorEq, not_false_eq_true, Nat.reduceLeDiff, rc31, sk, if_true, if_false, not_true_eq_false, not_false_eq_true, and_true, true_and, and_false, false_and, and_self, or_true, true_or, or_false, false_or, reduceIte, iff_self, Int32.add_zero, y_10, Classical.not_not]
  by_cases hd : a < N ∧ tx 10 (t a) = true
  · rw [if_pos hd]
    have hx := hd.2
    simp only [tx, Bool.and_eq_true, decide_eq_true_eq] at hx
    exact hlp _ (a + 1) (Or.inl ⟨rfl, rfl, by omega, hd.1, hx.1, hx.2⟩) hend
  · rw [if_neg hd]
    have := hlp 0 a (Or.inr ⟨rfl, rfl, fun z => hd ⟨z.2.1, by simp only [tx, Bool.and_eq_true, decide_eq_true_eq]; exact z.2.2⟩⟩) hend
    rw [eI] at this
    exact this
end
