/-! texts: which bytes they hold; a byte is gone past, a step is written -/
def ixf (f : Nat → Int32) (c : Int32) : Nat → Nat → Int32
  | 0, _ => -1
  | w + 1, k => if f k = c then nI k else ixf f c w (k + 1)
theorem y_ioc (d n : Nat) (I : sm_I) (J : sm_J) (K : Option Value → sm_H → Prop) {q m : Nat} (hq : sm_kc q = (4, m)) (h0 : ¬ q = 0) (hm : m < 2 ^ 30) (x1 x2 : Value) (c : Int32) : ∀ (w k : Nat), k + w = m →
    (sm_Ok d 248 7 [.ref q, x1, x2, .int (nI m), .int c, .int (nI k)] [] (sm_SH n, I, J) K ↔ K (some (.int (ixf (I q) c w k))) (sm_SH n, I, J))
  | 0, k, h => by
    have hk : k = m := by omega
    subst hk
    rw [z248_7]
    simp only [z248_0, z248_1, z248_2, z248_4, z248_5, z248_9, z248_10, z248_13, z248_14, z248_16, z248_17, z248_19, z248_22, z248_24, z248_25, z248_28, z248_31, z248_32, sm_cti, sm_ctr, sm_ctn, sm_nbi, Option.toList_some, Option.toList_none, List.cons_append, List.nil_append, ne_eq, reduceCtorEq, not_false_eq_true, Nat.reduceLeDiff, Int32.le_refl, if_true, ixf]
  | w + 1, k, h => by
    have hk : k < m := by omega
    have ih := y_ioc d n I J K hq h0 hm x1 x2 c w (k + 1) (by omega)
    rw [z248_7]
    simp only [z248_0, z248_1, z248_2, z248_4, z248_5, z248_9, z248_10, z248_13, z248_14, z248_16, z248_17, z248_19, z248_22, z248_24, z248_25, z248_28, z248_31, z248_32, sm_cti, sm_ctr, sm_ctn, sm_nbi, Option.toList_some, Option.toList_none, List.cons_append, List.nil_append, ne_eq, reduceCtorEq, not_false_eq_true, Nat.reduceLeDiff, hq, h0, if_neg (nI_ge hk (show m < 2 ^ 31 by omega)), y_inN hk (by omega), nI_clamp (show k < 2 ^ 31 by omega), nI_1, true_and, ih]
    simp only [ixf]
    by_cases e : I q k = c
    · simp only [e, if_true, if_false, not_true_eq_false, not_false_eq_true, and_true, true_and, and_false, false_and, and_self, or_true, true_or, or_false, false_or, reduceIte, iff_self, Int32.add_zero, y_10, Classical.not_not]
    · simp only [e, if_true, if_false, not_true_eq_false, not_false_eq_true, and_true, true_and, and_false, false_and, and_self, or_true, true_or, or_false, false_or, reduceIte, iff_self, Int32.add_zero, y_10, Classical.not_not]
theorem z244_14_0 (d : Nat) (L : List Value) (h : sm_H) (K : Option Value → sm_H → Prop) : sm_Ok d 244 14 L [.int 0] h K ↔ K (some (.int 0)) h := z244_14 d L h K 0 rfl
theorem y_sh0 : ∀ m, m < 11 → (Int32.ofNat m >>> ((0 : Int32) &&& 31)) = Int32.ofNat m := by decide
theorem y_b255 : ∀ v, v < 256 → ((nI v).toUInt32 % 65536).toInt32 = nI v := by decide +kernel
theorem y_indexOf (d n : Nat) (I : sm_I) (J : sm_J) (K : Option Value → sm_H → Prop) {q m : Nat} (h4 : 4 ≤ q) (h5 : q < 15) (hq : sm_kc (q + 11) = (4, m)) (hm0 : 0 < m) (hm : m < 11) {v : Nat} (hv : v < 256) : sm_Ok (d + 5) 242 0 [.ref q, .int (nI v)] [] (sm_SH n, I, J) K ↔ K (some (.int (ixf (I (q + 11)) (nI v).toInt8.toInt32 m 0))) (sm_SH n, I, J) := by
  have e0 : ¬ q + 11 = 0 := by omega
  have e1 : ¬ nI v < 0 := nI_pos (by omega)
  have e2 : ¬ (255 : Int32) < nI v := nI_nlt (a := 255) (b := v) (by omega) (by decide)
  have e3 : (if Int32.ofNat m < Int32.ofNat m then Int32.ofNat m else Int32.ofNat m) = nI m := by rw [ite_self]; rfl
  have e4 : (0 : Int32) < nI m := nI_lt (a := 0) (b := m) hm0 (by omega)
  have e5 := y_sh0 m hm
  have ioc := fun K => y_ioc (d + 2) n I J K hq e0 (by omega) (.int (nI v)) (.int 0) (nI v).toInt8.toInt32 m 0 (by omega)
  rw [nI_0] at ioc
  simp only [z242_0, z242_1, z242_2, z242_3, z242_6, z243_0, z243_1, z243_4, z243_7, z243_8, z243_11, z243_12, z243_13, z243_14, z243_17, z243_20, z243_23, z243_24, z243_27, z243_28, z243_29, z243_30, z243_36, z245_18_0, z245_18_1, z245_0, z245_3, z245_6, z245_7, z245_10, z245_13, z245_14, z245_17, z245_18, z241_0, z241_1, z241_4, z241_5, z241_6, z241_9, z241_10, z244_0, z244_3, z244_6, z244_7, z244_10, z244_13, z244_14, z244_14_0, z246_16_0, z246_16_1, z246_0, z246_1, z246_4, z246_5, z246_8, z246_11, z246_12, z246_15, z246_16, z247_0, z247_1, z247_4, z247_7, z247_8, z247_9, z247_10, z247_11, z247_14, z247_15, z247_16, z247_17, z247_18, z247_21, z247_22, z247_23, z247_24, z247_27, z247_28, z247_29, z247_30, z247_31, z247_32, z247_33, z247_36, sm_cti, sm_ctr, sm_ctn, sm_nbi, Option.toList_some, Option.toList_none, List.cons_append, List.nil_append, ne_eq, reduceCtorEq, not_false_eq_true, Nat.reduceLeDiff, h4, h5, sm_rc_str h4 h5, hq, e0, e1, e2, e5, e3, e4, or_true, ite_self, if_true, if_false, not_true_eq_false, not_false_eq_true, and_true, true_and, and_false, false_and, and_self, or_true, true_or, or_false, false_or, reduceIte, iff_self, Int32.add_zero, y_10, Classical.not_not]
  simp only [z242_0, z242_1, z242_2, z242_3, z242_6, z243_0, z243_1, z243_4, z243_7, z243_8, z243_11, z243_12, z243_13, z243_14, z243_17, z243_20, z243_23, z243_24, z243_27, z243_28, z243_29, z243_30, z243_36, z247_0, z247_1, z247_4, z247_7, z247_8, z247_9, z247_10, z247_11, z247_14, z247_15, z247_16, z247_17, z247_18, z247_21, z247_22, z247_23, z247_24, z247_27, z247_28, z247_29, z247_30, z247_31, z247_32, z247_33, z247_36, z248_0, z248_1, z248_2, z248_4, z248_5, z248_9, z248_10, z248_13, z248_14, z248_16, z248_17, z248_19, z248_22, z248_24, z248_25, z248_28, z248_31, z248_32, sm_cti, sm_ctr, sm_ctn, sm_nbi, Option.toList_some, Option.toList_none, List.cons_append, List.nil_append, ne_eq, reduceCtorEq, not_false_eq_true, Nat.reduceLeDiff, e4, ioc, if_true, if_false, not_true_eq_false, not_false_eq_true, and_true, true_and, and_false, false_and, and_self, or_true, true_or, or_false, false_or, reduceIte, iff_self, Int32.add_zero, y_10, Classical.not_not]
/-- which bytes a text holds -/
def tx (i v : Nat) : Bool := match i with
  | 0 => v == 59
  | 1 => v == 63
  | 2 => v == 124
  | 3 => v == 38
  | 4 => v == 60 || v == 61 || v == 62
  | 5 => v == 43 || v == 45
  | 6 => v == 42 || v == 47 || v == 37
  | 7 => v == 33 || v == 45 || v == 40
  | 8 => decide (nmi v < 6)
  | 9 => v == 41
  | _ => decide (48 ≤ v) && decide (v ≤ 57)
theorem tx_dec : ∀ i, i < 11 → ∀ v, v < 256 → decide ((0 : Int32) ≤ ixf (fun j => (sm_byt.getD i []).getD j 0) (nI v).toInt8.toInt32 ((sm_kc (i + 15)).2) 0) = tx i v := by decide +kernel
theorem tx_nm : ∀ v, v < 256 → nmi v < 6 → ixf (fun j => (sm_byt.getD 8 []).getD j 0) (nI v).toInt8.toInt32 6 0 = nI (nmi v) := by decide +kernel
theorem tx_len : ∀ i, i < 11 → sm_kc (i + 15) = (4, (sm_kc (i + 15)).2) ∧ 0 < (sm_kc (i + 15)).2 ∧ (sm_kc (i + 15)).2 < 11 := by decide +kernel
theorem ro_txt {xs : Nat → Int32} {I : sm_I} (h : iv_ro xs I) {i : Nat} (hi : i < 11) : I (i + 15) = fun j => (sm_byt.getD i []).getD j 0 := by
  funext j
  rw [h _ _ (by omega)]
  unfold sm_roI
  rw [if_neg (by omega), if_neg (by omega), if_neg (by omega), Nat.add_sub_cancel]
section
variable {t : Nat → Nat} {N : Nat}
/-- the tape of the class -/
def ctp (t : Nat → Nat) (N : Nat) (I : sm_I) : Prop := N ≤ 120 ∧ I 31 2 = nI N ∧ ∀ j, j < N → t j < 256 ∧ I 33 j = nI (t j)
theorem c_skip {xs : Nat → Int32} {I : sm_I} (hR : iv_ro xs I) (hT : ctp t N I) (d n : Nat) (J : sm_J) (K : Option Value → sm_H → Prop) {i a : Nat} (hi : i < 11) (ha : a ≤ N) (hA : I 31 4 = nI a) (hW : I 31 6 = 0) : sm_Ok (d + 6) 39 0 [.ref 31, .ref (4 + i), .null] [] (sm_SH n, I, J) K ↔ if a < N ∧ tx i (t a) = true then K (some (.int (nI (t a)))) (sm_SH n, sm_uI I 31 4 (nI (a + 1)), J) else K (some (.int 0)) (sm_SH n, I, J) := by
  obtain ⟨h1, h2, h3⟩ := hT
  have e1 : ¬ nI a < 0 := nI_pos (by omega)
  have e6 : ∀ x, 4 + i + x = i + (4 + x) := fun x => by omega
  by_cases hN : a < N
  · obtain ⟨l1, l2, l3⟩ := tx_len i hi
    obtain ⟨t1, t2⟩ := h3 a hN
    have e2 : nI a < nI N := nI_lt hN (by omega)
    have ex : 4 + i + 11 = i + 15 := by omega
    have hx : sm_kc (4 + i + 11) = (4, (sm_kc (i + 15)).2) := by rw [ex]; exact l1
    have e7 : decide ((0 : Int32) ≤ ixf (I (4 + i + 11)) (nI (t a)).toInt8.toInt32 ((sm_kc (i + 15)).2) 0) = tx i (t a) := by
      rw [ex, ro_txt hR hi]
      exact tx_dec i hi (t a) t1
    have e8 : ((0 : Int32) ≤ ixf (I (4 + i + 11)) (nI (t a)).toInt8.toInt32 ((sm_kc (i + 15)).2) 0) = (tx i (t a) = true) := by
      rw [← e7]
      exact propext decide_eq_true_iff.symm
    simp only [z39_0, z39_1, z39_4, z39_7, z39_8, z39_11, z39_14, z39_15, z39_18, z39_19, z39_22, z39_25, z39_26, z39_27, z39_28, z39_31, z39_32, z39_35, z39_36, z39_37, z39_38, z39_39, z39_40, z39_43, z39_46, z39_47, z39_48, z39_49, z39_50, z39_53, z39_54, z39_55, z39_58, z39_59, sm_cti, sm_ctr, sm_ctn, sm_nbi, Option.toList_some, Option.toList_none, List.cons_append, List.nil_append, ne_eq, reduceCtorEq, not_false_eq_true, Nat.reduceLeDiff, kc31, kc33, rf31_3, hA, hW, h2, t2, e1, e2, y_inN (show a < 120 by omega) (by decide), nI_clamp (show a < 2 ^ 31 by omega), y_b255 _ t1, sm_rc_str (show 4 ≤ 4 + i by omega) (show 4 + i < 15 by omega), y_indexOf _ _ _ _ _ (show 4 ≤ 4 + i by omega) (show 4 + i < 15 by omega) hx l2 l3 t1, e8, nI_1, hN, if_true, if_false, not_true_eq_false, not_false_eq_true, and_true, true_and, and_false, false_and, and_self, or_true, true_or, or_false, false_or, reduceIte, iff_self, Int32.add_zero, y_10, Classical.not_not]
  · have e2 : ¬ nI a < nI N := nI_nlt (by omega) (by omega)
    simp only [z39_0, z39_1, z39_4, z39_7, z39_8, z39_11, z39_14, z39_15, z39_18, z39_19, z39_22, z39_25, z39_26, z39_27, z39_28, z39_31, z39_32, z39_35, z39_36, z39_37, z39_38, z39_39, z39_40, z39_43, z39_46, z39_47, z39_48, z39_49, z39_50, z39_53, z39_54, z39_55, z39_58, z39_59, sm_cti, sm_ctr, sm_ctn, sm_nbi, Option.toList_some, Option.toList_none, List.cons_append, List.nil_append, ne_eq, reduceCtorEq, not_false_eq_true, Nat.reduceLeDiff, kc31, kc33, rf31_3, hA, hW, h2, e1, e2, hN, if_true, if_false, not_true_eq_false, not_false_eq_true, and_true, true_and, and_false, false_and, and_self, or_true, true_or, or_false, false_or, reduceIte, iff_self, Int32.add_zero, y_10, Classical.not_not]
theorem c_skipW {I : sm_I} (d n : Nat) (J : sm_J) (K : Option Value → sm_H → Prop) (q : Nat) (hW : I 31 6 = 1) : sm_Ok (d + 6) 39 0 [.ref 31, .ref q, .null] [] (sm_SH n, I, J) K ↔ K (some (.int 0)) (sm_SH n, I, J) := by
  simp only [z39_0, z39_1, z39_4, z39_7, z39_8, z39_11, z39_14, z39_15, z39_18, z39_19, z39_22, z39_25, z39_26, z39_27, z39_28, z39_31, z39_32, z39_35, z39_36, z39_37, z39_38, z39_39, z39_40, z39_43, z39_46, z39_47, z39_48, z39_49, z39_50, z39_53, z39_54, z39_55, z39_58, z39_59, sm_cti, sm_ctr, sm_ctn, sm_nbi, Option.toList_some, Option.toList_none, List.cons_append, List.nil_append, ne_eq, reduceCtorEq, not_false_eq_true, Nat.reduceLeDiff, kc31, hW, if_true, if_false, not_true_eq_false, not_false_eq_true, and_true, true_and, and_false, false_and, and_self, or_true, true_or, or_false, false_or, reduceIte, iff_self, Int32.add_zero, y_10, Classical.not_not]
theorem c_emit {I : sm_I} (d n : Nat) (J : sm_J) (K : Option Value → sm_H → Prop) {w : Nat} (hw : w < 256) (hA : I 31 1 = nI w) (hW : I 31 6 = 0) (v : Int32) : sm_Ok d 40 0 [.ref 31, .int v] [] (sm_SH n, I, J) K ↔ K none (sm_SH n, sm_uI (sm_uI I 32 w v) 31 1 (nI (w + 1)), J) := by
  have e2 : ¬ (256 : Int32) ≤ nI w := nI_ge (a := w) (b := 256) hw (by decide)
  have e3 : sm_uI I 32 w v 31 1 = nI w := by rw [uI_q _ _ (by decide), hA]
  have e4 : Int32.ofNat 256 = 256 := rfl
  simp only [z40_0, z40_1, z40_4, z40_7, z40_8, z40_11, z40_12, z40_15, z40_16, z40_19, z40_20, z40_23, z40_24, z40_27, z40_28, z40_29, z40_30, z40_31, z40_34, z40_35, z40_36, z40_39, sm_cti, sm_ctr, sm_ctn, sm_nbi, Option.toList_some, Option.toList_none, List.cons_append, List.nil_append, ne_eq, reduceCtorEq, not_false_eq_true, Nat.reduceLeDiff, kc31, kc32, rf31_0, hA, hW, e2, e3, e4, y_inN hw (by decide), nI_clamp (show w < 2 ^ 31 by omega), nI_1, if_true, if_false, not_true_eq_false, not_false_eq_true, and_true, true_and, and_false, false_and, and_self, or_true, true_or, or_false, false_or, reduceIte, iff_self, Int32.add_zero, y_10, Classical.not_not]
theorem c_emitW {I : sm_I} (d n : Nat) (J : sm_J) (K : Option Value → sm_H → Prop) (hW : I 31 6 = 1) (v : Int32) : sm_Ok d 40 0 [.ref 31, .int v] [] (sm_SH n, I, J) K ↔ K none (sm_SH n, I, J) := by
  simp only [z40_0, z40_1, z40_4, z40_7, z40_8, z40_11, z40_12, z40_15, z40_16, z40_19, z40_20, z40_23, z40_24, z40_27, z40_28, z40_29, z40_30, z40_31, z40_34, z40_35, z40_36, z40_39, sm_cti, sm_ctr, sm_ctn, sm_nbi, Option.toList_some, Option.toList_none, List.cons_append, List.nil_append, ne_eq, reduceCtorEq, not_false_eq_true, Nat.reduceLeDiff, kc31, hW, if_true, if_false, not_true_eq_false, not_false_eq_true, and_true, true_and, and_false, false_and, and_self, or_true, true_or, or_false, false_or, reduceIte, iff_self, Int32.add_zero, y_10, Classical.not_not]
end
