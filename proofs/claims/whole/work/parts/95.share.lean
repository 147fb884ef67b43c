/-! both answer alike: share -/
theorem i32_a (c s x : Int32) : c - s - x = c - (s + x) := by
  rw [Int32.sub_eq_add_neg, Int32.sub_eq_add_neg, Int32.sub_eq_add_neg, Int32.neg_add, Int32.add_assoc, Int32.sub_eq_add_neg]
theorem i32_b (c s p x : Int32) : c - (p - (s + x)) - x = c - (p - s) := by grind
theorem i32_c (c : Int32) (s : Int32) : c - (s - s) = c := by grind
theorem i32_d (c s : Int32) : c - (s - 0) = c - s := by grind
section
variable {P D : Nat} {f a b : Nat → Nat}
/-- by whom the cost is shared -/
abbrev NR (f : Nat → Nat) (h p : Nat) : Prop := nb (f p) h (f 52)
def alv (f : Nat → Nat) (h : Nat) : Nat → Nat
  | 0 => 0
  | k + 1 => if NR f h k then alv f h k + (f (8 + k) + 1) else alv f h k
theorem alv_s {h k : Nat} : alv f h (k + 1) = if NR f h k then alv f h k + (f (8 + k) + 1) else alv f h k := rfl
theorem alv_le (hf : ∀ k, k < 8 → f (8 + k) ≤ 9) {h : Nat} : ∀ k, k ≤ 8 → alv f h k ≤ 10 * k
  | 0, _ => Nat.le_refl _
  | k + 1, hk => by
    have := alv_le hf (h := h) k (by omega)
    have := hf k (by omega)
    rw [alv_s]
    split <;> omega
theorem alv_pos {h o : Nat} (hn : NR f h o) : ∀ k, o < k → 0 < alv f h k
  | k + 1, hk => by
    rw [alv_s]
    by_cases e : o = k
    · subst e
      rw [if_pos hn]
      omega
    · have := alv_pos hn k (by omega)
      split <;> omega
def shv (f : Nat → Nat) (c all : Int32) (p : Nat) : Int32 := c * (nI (f (8 + p)) + 1) / all
def shs (f : Nat → Nat) (h : Nat) (c all : Int32) : Nat → Int32
  | 0 => 0
  | k + 1 => if NR f h k then shs f h c all k + shv f c all k else shs f h c all k
theorem shs_s {h k : Nat} {c all : Int32} : shs f h c all (k + 1) = if NR f h k then shs f h c all k + shv f c all k else shs f h c all k := rfl
def sfa (f : Nat → Nat) (h : Nat) : Nat → Option Nat
  | 0 => none
  | k + 1 => match sfa f h k with
    | some j => some j
    | none => if NR f h k then some k else none
def sfd (f : Nat → Nat) (h P : Nat) : Nat → Option Nat
  | 0 => none
  | w + 1 => if NR f h (P - (w + 1)) then some (P - (w + 1)) else sfd f h P w
theorem sf_eq {h : Nat} : ∀ w, w ≤ P → (match sfa f h (P - w) with | some j => some j | none => sfd f h P w) = sfa f h P
  | 0, _ => by
    rw [Nat.sub_zero]
    cases sfa f h P <;> rfl
  | w + 1, hw => by
    rw [← sf_eq w (by omega)]
    have e : P - w = P - (w + 1) + 1 := by omega
    rw [e]
    show _ = (match (match sfa f h (P - (w + 1)) with
      | some j => some j
      | none => if NR f h (P - (w + 1)) then some (P - (w + 1)) else none) with
      | some j => some j
      | none => sfd f h P w)
    cases sfa f h (P - (w + 1)) with
    | some j => rfl
    | none =>
      dsimp only
      show (if NR f h (P - (w + 1)) then some (P - (w + 1)) else sfd f h P w) = _
      by_cases hn : NR f h (P - (w + 1))
      · rw [if_pos hn, if_pos hn]
      · rw [if_neg hn, if_neg hn]
theorem sfa_lt {h : Nat} : ∀ {k j : Nat}, sfa f h k = some j → j < k
  | k + 1, j, hj => by
    have hs : sfa f h (k + 1) = match sfa f h k with
      | some j => some j
      | none => if NR f h k then some k else none := rfl
    rw [hs] at hj
    cases e : sfa f h k with
    | some i =>
      rw [e] at hj
      have := sfa_lt e
      cases hj
      omega
    | none =>
      rw [e] at hj
      dsimp only at hj
      split at hj
      · cases hj
        omega
      · cases hj
theorem sfa_some {h o : Nat} (hn : NR f h o) : ∀ k, o < k → ∃ j, sfa f h k = some j
  | k + 1, hk => by
    have hs : sfa f h (k + 1) = match sfa f h k with
      | some j => some j
      | none => if NR f h k then some k else none := rfl
    rw [hs]
    by_cases e : o = k
    · subst e
      cases e : sfa f h o with
      | some i => exact ⟨i, rfl⟩
      | none => exact ⟨o, by dsimp only; rw [if_pos hn]⟩
    · obtain ⟨j, hj⟩ := sfa_some hn k (by omega)
      exact ⟨j, by rw [hj]⟩
def sfi (z : Int32) (o : Option Nat) : Int32 := match o with
  | none => z
  | some j => nI j
theorem c_nearX {I : sm_I} (hb : bdf P D f a b) (hF : cFo P D f a b I) {h p : Nat} (hh : h ≤ 15) (hp : p < 8) (d n : Nat) (J : sm_J) (K : Option Value → sm_H → Prop) :
    sm_Ok d 10 0 [.ref 34, .int (nI h), .int (nI p), .null] [] (sm_SH n, I, J) K ↔ K (some (.int (if NR f h p then 1 else 0))) (sm_SH n, I, J) := by
  have b1 := bd_15 hb hp
  have b3 := bd_52 hb
  rw [y_isNear d n I J K (nI h) hp, (hF.2.2.2.1 p hp).1, hF.2.2.1]
  simp only [nb_c (show f p < 2 ^ 20 by omega) (show h < 2 ^ 20 by omega) (show f 52 < 2 ^ 20 by omega)]
theorem m_nearX {I : sm_I} (hb : bdf P D f a b) (hM : mFo P D f a b I) {h p : Nat} (hh : h ≤ 15) (hp : p < 8) (d n : Nat) (J : sm_J) (K : Option Value → sm_H → Prop) :
    sm_Ok d 180 0 [.ref 103, .int (nI h), .int (nI (f p))] [] (sm_SH n, I, J) K ↔ K (some (.int (if NR f h p then 1 else 0))) (sm_SH n, I, J) := by
  have b1 := bd_15 hb hp
  have b3 := bd_52 hb
  have e : nb h (f p) (f 52) ↔ NR f h p := ⟨fun z => ⟨z.2, z.1⟩, fun z => ⟨z.2, z.1⟩⟩
  rw [m_areNear, hM.2.2.1 52 (by omega)]
  simp only [nb_m (show h < 2 ^ 20 by omega) (show f p < 2 ^ 20 by omega) (show f 52 < 2 ^ 20 by omega), e]
theorem c_vn_lp {I : sm_I} (hb : bdf P D f a b) (hF : cFo P D f a b I) {h : Nat} (hh : h ≤ 15) (d n : Nat) (J : sm_J) (K : Option Value → sm_H → Prop) : ∀ (w k : Nat), k + w = P →
    (sm_Ok (d + 1) 12 4 [.ref 34, .int (nI h), .int (nI (alv f h k)), .int (nI k)] [] (sm_SH n, I, J) K ↔ K (some (.int (nI (alv f h P)))) (sm_SH n, I, J))
  | 0, k, hk => by
    have hk : k = P := by omega
    subst hk
    rw [z12_4]
    simp only [z12_1, z12_2, z12_3, z12_5, z12_6, z12_9, z12_12, z12_13, z12_14, z12_15, z12_18, z12_21, z12_22, z12_23, z12_26, z12_27, z12_28, z12_29, z12_30, z12_31, z12_32, z12_35, z12_38, z12_39, sm_cti, sm_ctr, sm_ctn, sm_nbi, Option.toList_some, Option.toList_none, List.cons_append, List.nil_append, ne_eq, reduceCtorEq, not_false_eq_true, Nat.reduceLeDiff, kc34, hF.1, Int32.le_refl, if_true, if_false, not_true_eq_false, not_false_eq_true, and_true, true_and, and_false, false_and, and_self, or_true, true_or, or_false, false_or, reduceIte, iff_self, Int32.add_zero, y_10, Classical.not_not]
  | w + 1, k, hk => by
    have hP := hb.1
    have e0 : ¬ nI P ≤ nI k := nI_ge (show k < P by omega) (by omega)
    have ev := (hF.2.2.2.1 k (by omega)).2.1
    have ea : nI (alv f h k) + nI (f (8 + k) + 1) = nI (alv f h k + (f (8 + k) + 1)) := nI_add _ _
    rw [← c_vn_lp hb hF hh d n J K w (k + 1) (by omega), z12_4, alv_s]
    by_cases hn : NR f h k
    · have hn' := eq_true hn
      simp only [z12_1, z12_2, z12_3, z12_5, z12_6, z12_9, z12_12, z12_13, z12_14, z12_15, z12_18, z12_21, z12_22, z12_23, z12_26, z12_27, z12_28, z12_29, z12_30, z12_31, z12_32, z12_35, z12_38, z12_39, sm_cti, sm_ctr, sm_ctn, sm_nbi, Option.toList_some, Option.toList_none, List.cons_append, List.nil_append, ne_eq, reduceCtorEq, not_false_eq_true, Nat.reduceLeDiff, kc34, kc36, rc34, rf34_1, hF.1, e0, c_nearX hb hF hh (show k < 8 by omega), hn', ev, nI_1, ea, y_bit, y_inN (show k < 8 by omega) (by decide), nI_clamp (show k < 2 ^ 31 by omega), if_true, if_false, not_true_eq_false, not_false_eq_true, and_true, true_and, and_false, false_and, and_self, or_true, true_or, or_false, false_or, reduceIte, iff_self, Int32.add_zero, y_10, Classical.not_not]
    · have hn' := eq_false hn
      simp only [z12_1, z12_2, z12_3, z12_5, z12_6, z12_9, z12_12, z12_13, z12_14, z12_15, z12_18, z12_21, z12_22, z12_23, z12_26, z12_27, z12_28, z12_29, z12_30, z12_31, z12_32, z12_35, z12_38, z12_39, sm_cti, sm_ctr, sm_ctn, sm_nbi, Option.toList_some, Option.toList_none, List.cons_append, List.nil_append, ne_eq, reduceCtorEq, not_false_eq_true, Nat.reduceLeDiff, kc34, rc34, hF.1, e0, c_nearX hb hF hh (show k < 8 by omega), hn', nI_1, y_bit, if_true, if_false, not_true_eq_false, not_false_eq_true, and_true, true_and, and_false, false_and, and_self, or_true, true_or, or_false, false_or, reduceIte, iff_self, Int32.add_zero, y_10, Classical.not_not]
theorem c_voices {I : sm_I} (hb : bdf P D f a b) (hF : cFo P D f a b I) {h : Nat} (hh : h ≤ 15) (d n : Nat) (J : sm_J) (K : Option Value → sm_H → Prop) :
    sm_Ok (d + 1) 12 0 [.ref 34, .int (nI h), .null, .null] [] (sm_SH n, I, J) K ↔ K (some (.int (nI (alv f h P)))) (sm_SH n, I, J) := by
  rw [← c_vn_lp hb hF hh d n J K P 0 (by omega), z12_0]
  simp only [z12_1, z12_2, z12_3, sm_cti, sm_ctr, sm_ctn, sm_nbi, Option.toList_some, Option.toList_none, List.cons_append, List.nil_append, ne_eq, reduceCtorEq, not_false_eq_true, Nat.reduceLeDiff, if_true, if_false, not_true_eq_false, not_false_eq_true, and_true, true_and, and_false, false_and, and_self, or_true, true_or, or_false, false_or, reduceIte, iff_self, Int32.add_zero, y_10, Classical.not_not]
  exact Iff.rfl
theorem c_shareOf {I : sm_I} (hF : cFo P D f a b I) {c all : Int32} (ha : ¬ all = 0) {p : Nat} (hp : p < 8) (d n : Nat) (J : sm_J) (K : Option Value → sm_H → Prop) :
    sm_Ok d 145 0 [.ref 26, .int c, .int (nI p), .int all] [] (sm_SH n, I, J) K ↔ K (some (.int (shv f c all p))) (sm_SH n, I, J) := by
  have ev := (hF.2.2.2.1 p hp).2.1
  unfold shv
  simp only [z145_0, z145_1, z145_4, z145_5, z145_8, z145_9, z145_10, z145_13, z145_16, z145_17, z145_18, z145_19, z145_20, z145_21, z145_22, z145_23, sm_cti, sm_ctr, sm_ctn, sm_nbi, Option.toList_some, Option.toList_none, List.cons_append, List.nil_append, ne_eq, reduceCtorEq, not_false_eq_true, Nat.reduceLeDiff, kc26, kc34, kc36, rf26_2, rf34_1, ha, ev, y_inN hp (by decide), nI_clamp (show p < 2 ^ 31 by omega), if_true, if_false, not_true_eq_false, not_false_eq_true, and_true, true_and, and_false, false_and, and_self, or_true, true_or, or_false, false_or, reduceIte, iff_self, Int32.add_zero, y_10, Classical.not_not]
theorem c_sh_lp {I : sm_I} (hb : bdf P D f a b) (hF : cFo P D f a b I) {h : Nat} (hh : h ≤ 15) {c all : Int32} (ha : ¬ all = 0) (x2 : Int32) (d n : Nat) (J : sm_J) (K : Option Value → sm_H → Prop) : ∀ (k : Nat), k ≤ P →
    (sm_Ok (d + 1) 105 74 [.ref 26, .int (nI h), .int x2, .int c, .int all, .int (sfi (-2) (sfd f h P (P - k))), .int (c - (shs f h c all P - shs f h c all k)), .int (nI k + (-1))] [] (sm_SH n, I, J) K ↔ sm_Ok (d + 1) 105 116 [.ref 26, .int (nI h), .int x2, .int c, .int all, .int (sfi (-2) (sfd f h P P)), .int (c - shs f h c all P), .int (-1)] [] (sm_SH n, I, J) K)
  | 0, _ => by
    have e : (nI 0 + (-1) : Int32) = -1 := by decide
    have l : ((-1 : Int32) < 0) = True := by decide
    have es : shs f h c all 0 = 0 := rfl
    rw [z105_74, e, es, i32_d, Nat.sub_zero]
    simp only [z105_76, sm_cti, sm_ctr, sm_ctn, sm_nbi, Option.toList_some, Option.toList_none, List.cons_append, List.nil_append, ne_eq, reduceCtorEq, not_false_eq_true, Nat.reduceLeDiff, l, if_true, if_false, not_true_eq_false, not_false_eq_true, and_true, true_and, and_false, false_and, and_self, or_true, true_or, or_false, false_or, reduceIte, iff_self, Int32.add_zero, y_10, Classical.not_not]
  | k + 1, hk => by
    have hP := hb.1
    have l : ¬ nI k < 0 := nI_pos (by omega)
    have hw : P - k = (P - (k + 1)) + 1 := by omega
    have hd : sfd f h P (P - k) = if NR f h k then some k else sfd f h P (P - (k + 1)) := by
      rw [hw]
      show (if NR f h (P - (P - (k + 1) + 1)) then some (P - (P - (k + 1) + 1)) else sfd f h P (P - (k + 1))) = _
      rw [show P - (P - (k + 1) + 1) = k by omega]
    rw [← c_sh_lp hb hF hh ha x2 d n J K k (by omega), z105_74, nI_dm, hd, shs_s]
    by_cases hn : NR f h k
    · have hn' := eq_true hn
      rw [if_pos hn, if_pos hn]
      dsimp only [sfi]
      simp only [z105_1, z105_3, z105_6, z105_9, z105_10, z105_13, z105_14, z105_17, z105_20, z105_21, z105_24, z105_27, z105_30, z105_31, z105_32, z105_33, z105_36, z105_37, z105_38, z105_41, z105_44, z105_45, z105_46, z105_47, z105_50, z105_51, z105_54, z105_56, z105_58, z105_60, z105_61, z105_63, z105_64, z105_67, z105_70, z105_71, z105_72, z105_76, z105_79, z105_80, z105_83, z105_84, z105_86, z105_89, z105_92, z105_94, z105_96, z105_98, z105_99, z105_100, z105_102, z105_104, z105_107, z105_108, z105_110, z105_113, z105_116, z105_117, z105_118, z105_119, z105_121, z105_124, z105_125, z105_127, z105_130, z105_132, z105_135, z105_136, z105_137, sm_cti, sm_ctr, sm_ctn, sm_nbi, Option.toList_some, Option.toList_none, List.cons_append, List.nil_append, ne_eq, reduceCtorEq, not_false_eq_true, Nat.reduceLeDiff, kc26, rc26, rc34, rf26_2, l, c_nearX hb hF hh (show k < 8 by omega), hn', c_shareOf hF ha (show k < 8 by omega), y_bit, i32_b, if_true, if_false, not_true_eq_false, not_false_eq_true, and_true, true_and, and_false, false_and, and_self, or_true, true_or, or_false, false_or, reduceIte, iff_self, Int32.add_zero, y_10, Classical.not_not]
    · have hn' := eq_false hn
      rw [if_neg hn, if_neg hn]
      simp only [z105_1, z105_3, z105_6, z105_9, z105_10, z105_13, z105_14, z105_17, z105_20, z105_21, z105_24, z105_27, z105_30, z105_31, z105_32, z105_33, z105_36, z105_37, z105_38, z105_41, z105_44, z105_45, z105_46, z105_47, z105_50, z105_51, z105_54, z105_56, z105_58, z105_60, z105_61, z105_63, z105_64, z105_67, z105_70, z105_71, z105_72, z105_76, z105_79, z105_80, z105_83, z105_84, z105_86, z105_89, z105_92, z105_94, z105_96, z105_98, z105_99, z105_100, z105_102, z105_104, z105_107, z105_108, z105_110, z105_113, z105_116, z105_117, z105_118, z105_119, z105_121, z105_124, z105_125, z105_127, z105_130, z105_132, z105_135, z105_136, z105_137, sm_cti, sm_ctr, sm_ctn, sm_nbi, Option.toList_some, Option.toList_none, List.cons_append, List.nil_append, ne_eq, reduceCtorEq, not_false_eq_true, Nat.reduceLeDiff, kc26, rc34, rf26_2, l, c_nearX hb hF hh (show k < 8 by omega), hn', y_bit, if_true, if_false, not_true_eq_false, not_false_eq_true, and_true, true_and, and_false, false_and, and_self, or_true, true_or, or_false, false_or, reduceIte, iff_self, Int32.add_zero, y_10, Classical.not_not]
theorem m_sh_l1 {I : sm_I} (hb : bdf P D f a b) (hM : mFo P D f a b I) {h : Nat} (hh : h ≤ 15) (x2 x3 : Int32) (x7 : Value) (d n : Nat) (J : sm_J) (K : Option Value → sm_H → Prop) : ∀ (w k : Nat), k + w = P →
    (sm_Ok (d + 1) 209 44 [.ref 103, .int (nI h), .int x2, .int x3, .int (nI (alv f h k)), .int (sfi (-1) (sfa f h k)), .int (nI k), x7] [] (sm_SH n, I, J) K ↔ sm_Ok (d + 1) 209 105 [.ref 103, .int (nI h), .int x2, .int x3, .int (nI (alv f h P)), .int (sfi (-1) (sfa f h P)), .int (nI P), x7] [] (sm_SH n, I, J) K)
  | 0, k, hk => by
    have hk : k = P := by omega
    subst hk
    rw [z209_44]
    simp only [z209_46, z209_47, z209_50, sm_cti, sm_ctr, sm_ctn, sm_nbi, Option.toList_some, Option.toList_none, List.cons_append, List.nil_append, ne_eq, reduceCtorEq, not_false_eq_true, Nat.reduceLeDiff, kc103, hM.1, Int32.le_refl, if_true, if_false, not_true_eq_false, not_false_eq_true, and_true, true_and, and_false, false_and, and_self, or_true, true_or, or_false, false_or, reduceIte, iff_self, Int32.add_zero, y_10, Classical.not_not]
  | w + 1, k, hk => by
    have hP := hb.1
    have e0 : ¬ nI P ≤ nI k := nI_ge (show k < P by omega) (by omega)
    have e1 := hM.2.2.1 k (by omega)
    have e8 := hM.2.2.1 (8 + k) (by omega)
    have a8 : (8 : Int32) + nI k = nI (8 + k) := nI_add 8 k
    have ea : nI (alv f h k) + nI (f (8 + k) + 1) = nI (alv f h k + (f (8 + k) + 1)) := nI_add _ _
    have hs : sfa f h (k + 1) = match sfa f h k with
      | some j => some j
      | none => if NR f h k then some k else none := rfl
    rw [← m_sh_l1 hb hM hh x2 x3 x7 d n J K w (k + 1) (by omega), z209_44, alv_s, hs]
    by_cases hn : NR f h k
    · have hn' := eq_true hn
      rw [if_pos hn]
      cases hr : sfa f h k with
      | none =>
        dsimp only
        rw [if_pos hn]
        dsimp only [sfi]
        have l : ¬ (0 : Int32) ≤ -1 := by decide
        simp only [z209_46, z209_47, z209_50, z209_53, z209_54, z209_55, z209_56, z209_59, z209_61, z209_62, z209_65, z209_68, z209_70, z209_71, z209_74, z209_76, z209_78, z209_79, z209_80, z209_81, z209_82, z209_83, z209_85, z209_87, z209_90, z209_92, z209_97, z209_99, z209_102, sm_cti, sm_ctr, sm_ctn, sm_nbi, Option.toList_some, Option.toList_none, List.cons_append, List.nil_append, ne_eq, reduceCtorEq, not_false_eq_true, Nat.reduceLeDiff, kc103, kc104, rc103, rf103_0, hM.1, e0, e1, e8, a8, m_nearX hb hM hh (show k < 8 by omega), hn', l, y_bit, nI_1, ea, y_inN (show k < 54 by omega) (by decide), nI_clamp (show k < 2 ^ 31 by omega), y_inN (show 8 + k < 54 by omega) (by decide), nI_clamp (show 8 + k < 2 ^ 31 by omega), if_true, if_false, not_true_eq_false, not_false_eq_true, and_true, true_and, and_false, false_and, and_self, or_true, true_or, or_false, false_or, reduceIte, iff_self, Int32.add_zero, y_10, Classical.not_not]
      | some j =>
        have hj := sfa_lt hr
        dsimp only [sfi]
        have l : (0 : Int32) ≤ nI j := nI_pos' (by omega)
        simp only [z209_46, z209_47, z209_50, z209_53, z209_54, z209_55, z209_56, z209_59, z209_61, z209_62, z209_65, z209_68, z209_70, z209_71, z209_74, z209_76, z209_78, z209_79, z209_80, z209_81, z209_82, z209_83, z209_85, z209_87, z209_95, z209_97, z209_99, z209_102, sm_cti, sm_ctr, sm_ctn, sm_nbi, Option.toList_some, Option.toList_none, List.cons_append, List.nil_append, ne_eq, reduceCtorEq, not_false_eq_true, Nat.reduceLeDiff, kc103, kc104, rc103, rf103_0, hM.1, e0, e1, e8, a8, m_nearX hb hM hh (show k < 8 by omega), hn', l, y_bit, nI_1, ea, y_inN (show k < 54 by omega) (by decide), nI_clamp (show k < 2 ^ 31 by omega), y_inN (show 8 + k < 54 by omega) (by decide), nI_clamp (show 8 + k < 2 ^ 31 by omega), if_true, if_false, not_true_eq_false, not_false_eq_true, and_true, true_and, and_false, false_and, and_self, or_true, true_or, or_false, false_or, reduceIte, iff_self, Int32.add_zero, y_10, Classical.not_not]
    · have hn' := eq_false hn
      rw [if_neg hn]
      have hx : sfi (-1) (match sfa f h k with | some j => some j | none => if NR f h k then some k else none) = sfi (-1) (sfa f h k) := by
        cases sfa f h k with
        | some j => rfl
        | none =>
          dsimp only
          rw [if_neg hn]
      rw [hx]
      simp only [z209_46, z209_47, z209_50, z209_53, z209_54, z209_55, z209_56, z209_59, z209_61, z209_62, z209_65, z209_99, z209_102, sm_cti, sm_ctr, sm_ctn, sm_nbi, Option.toList_some, Option.toList_none, List.cons_append, List.nil_append, ne_eq, reduceCtorEq, not_false_eq_true, Nat.reduceLeDiff, kc103, kc104, rc103, rf103_0, hM.1, e0, e1, m_nearX hb hM hh (show k < 8 by omega), hn', y_bit, nI_1, y_inN (show k < 54 by omega) (by decide), nI_clamp (show k < 2 ^ 31 by omega), if_true, if_false, not_true_eq_false, not_false_eq_true, and_true, true_and, and_false, false_and, and_self, or_true, true_or, or_false, false_or, reduceIte, iff_self, Int32.add_zero, y_10, Classical.not_not]
theorem m_sh_l2 {I : sm_I} (hb : bdf P D f a b) (hM : mFo P D f a b I) {h : Nat} (hh : h ≤ 15) {c all : Int32} (ha : ¬ all = 0) (x2 x5 : Int32) (d n : Nat) (J : sm_J) (K : Option Value → sm_H → Prop) : ∀ (w k : Nat), k + w = P →
    (sm_Ok (d + 1) 209 127 [.ref 103, .int (nI h), .int x2, .int c, .int all, .int x5, .int (c - shs f h c all k), .int (nI k)] [] (sm_SH n, I, J) K ↔ sm_Ok (d + 1) 209 183 [.ref 103, .int (nI h), .int x2, .int c, .int all, .int x5, .int (c - shs f h c all P), .int (nI P)] [] (sm_SH n, I, J) K)
  | 0, k, hk => by
    have hk : k = P := by omega
    subst hk
    rw [z209_127]
    simp only [z209_129, z209_130, z209_133, sm_cti, sm_ctr, sm_ctn, sm_nbi, Option.toList_some, Option.toList_none, List.cons_append, List.nil_append, ne_eq, reduceCtorEq, not_false_eq_true, Nat.reduceLeDiff, kc103, hM.1, Int32.le_refl, if_true, if_false, not_true_eq_false, not_false_eq_true, and_true, true_and, and_false, false_and, and_self, or_true, true_or, or_false, false_or, reduceIte, iff_self, Int32.add_zero, y_10, Classical.not_not]
  | w + 1, k, hk => by
    have hP := hb.1
    have e0 : ¬ nI P ≤ nI k := nI_ge (show k < P by omega) (by omega)
    have e1 := hM.2.2.1 k (by omega)
    have e8 := hM.2.2.1 (8 + k) (by omega)
    have a8 : (8 : Int32) + nI k = nI (8 + k) := nI_add 8 k
    rw [← m_sh_l2 hb hM hh ha x2 x5 d n J K w (k + 1) (by omega), z209_127, shs_s]
    by_cases hn : NR f h k
    · have hn' := eq_true hn
      rw [if_pos hn]
      have hv : c * nI (f (8 + k) + 1) / all = shv f c all k := by
        unfold shv
        rw [nI_1]
      simp only [z209_129, z209_130, z209_133, z209_136, z209_138, z209_139, z209_140, z209_141, z209_144, z209_146, z209_147, z209_150, z209_153, z209_154, z209_155, z209_158, z209_160, z209_162, z209_163, z209_164, z209_165, z209_166, z209_167, z209_169, z209_170, z209_174, z209_175, z209_177, z209_180, sm_cti, sm_ctr, sm_ctn, sm_nbi, Option.toList_some, Option.toList_none, List.cons_append, List.nil_append, ne_eq, reduceCtorEq, not_false_eq_true, Nat.reduceLeDiff, kc103, kc104, rc103, rf103_0, hM.1, e0, e1, e8, a8, m_nearX hb hM hh (show k < 8 by omega), hn', ha, y_bit, nI_1, hv, i32_a, y_inN (show k < 54 by omega) (by decide), nI_clamp (show k < 2 ^ 31 by omega), y_inN (show 8 + k < 54 by omega) (by decide), nI_clamp (show 8 + k < 2 ^ 31 by omega), if_true, if_false, not_true_eq_false, not_false_eq_true, and_true, true_and, and_false, false_and, and_self, or_true, true_or, or_false, false_or, reduceIte, iff_self, Int32.add_zero, y_10, Classical.not_not]
    · have hn' := eq_false hn
      rw [if_neg hn]
      simp only [z209_129, z209_130, z209_133, z209_136, z209_138, z209_139, z209_140, z209_141, z209_144, z209_146, z209_147, z209_150, z209_173, z209_174, z209_175, z209_177, z209_180, sm_cti, sm_ctr, sm_ctn, sm_nbi, Option.toList_some, Option.toList_none, List.cons_append, List.nil_append, ne_eq, reduceCtorEq, not_false_eq_true, Nat.reduceLeDiff, kc103, kc104, rc103, rf103_0, hM.1, e0, e1, m_nearX hb hM hh (show k < 8 by omega), hn', y_bit, nI_1, Int32.sub_zero, y_inN (show k < 54 by omega) (by decide), nI_clamp (show k < 2 ^ 31 by omega), if_true, if_false, not_true_eq_false, not_false_eq_true, and_true, true_and, and_false, false_and, and_self, or_true, true_or, or_false, false_or, reduceIte, iff_self, Int32.add_zero, y_10, Classical.not_not]
end
theorem pw_share {n : Nat} {xs : Nat → Int32} {I : sm_I} {J : sm_J} (hI : Inv xs I J) (x y z : Int32) : pw n I J 105 [.ref 26, .int x, .int y, .int z, .null, .null, .null, .null] 209 [.ref 103, .int x, .int y, .int z, .null, .null, .null, .null] (fun I2 J2 => Inv xs I2 J2) := by
  obtain ⟨P, D, B, i1, i2, i3, i4, i5, i6, i7, i8⟩ := id hI
  obtain ⟨f, a, b, hb, cF, cT, mF, hz⟩ := fo_pure i2
  have hP := hb.1
  intro d K hK
  by_cases h1 : 0 ≤ x ∧ x ≤ 15
  · by_cases h2 : 0 ≤ y ∧ y < nI P
    · by_cases h3 : 0 ≤ z ∧ z ≤ 999
      · obtain ⟨h, hh, rfl⟩ := nI_of2 (M := 15) (n := 15) (by decide) (Int32.not_lt.mpr h1.1) h1.2
        obtain ⟨o, ho, rfl⟩ := y_idx (show P < 2 ^ 31 by omega) h2
        have eo := mF.2.2.1 o (by omega)
        have n0 : (0 : Int32) = nI 0 := rfl
        by_cases hn : NR f h o
        · have hn' := eq_true hn
          have hv : ∀ k, k < 8 → f (8 + k) ≤ 9 := fun k hk => by
            have := hb.2.2.1 (8 + k) (by omega)
            unfold top at this
            rw [if_neg (by omega), if_pos (by omega)] at this
            exact this
          have al := alv_le hv (h := h) P (by omega)
          have ap := alv_pos hn P ho
          have ha : ¬ nI (alv f h P) = 0 := fun z => by have := (nI_eq (a := alv f h P) (b := 0) (by omega) (by decide)).mp z; omega
          obtain ⟨j, hj⟩ := sfa_some hn P ho
          have hjP := sfa_lt hj
          have hd : sfd f h P P = some j := by
            have := sf_eq (f := f) (h := h) (P := P) P (Nat.le_refl _)
            rw [Nat.sub_self, hj] at this
            exact this
          have l1 : (nI o = nI j) = (o = j) := propext (nI_eq (by omega) (by omega))
          simp only [z105_0, z105_1, z105_3, z105_6, z105_9, z105_10, z105_13, z105_14, z105_17, z105_20, z105_21, z105_24, z105_27, z105_30, z105_31, z105_32, z105_33, z105_36, z105_37, z105_38, z105_41, z105_44, z105_45, z105_46, z105_47, z105_50, z105_51, z105_54, z105_56, z105_58, z105_60, z105_61, z105_63, z105_64, z105_67, z105_70, z105_71, z105_72, z105_76, z105_79, z105_80, z105_83, z105_84, z105_86, z105_89, z105_92, z105_94, z105_96, z105_98, z105_99, z105_100, z105_102, z105_104, z105_107, z105_108, z105_110, z105_113, z105_116, z105_117, z105_118, z105_119, z105_121, z105_124, z105_125, z105_127, z105_130, z105_132, z105_135, z105_136, z105_137, sm_cti, sm_ctr, sm_ctn, sm_nbi, Option.toList_some, Option.toList_none, List.cons_append, List.nil_append, ne_eq, reduceCtorEq, not_false_eq_true, Nat.reduceLeDiff, kc26, kc34, rc34, rf26_2, y_within, y_isOne, cF.1, y_bit, h1, h2, h3, c_nearX hb cF hh (show o < 8 by omega), hn', c_voices hb cF hh, if_true, if_false, not_true_eq_false, not_false_eq_true, and_true, true_and, and_false, false_and, and_self, or_true, true_or, or_false, false_or, reduceIte, iff_self, Int32.add_zero, y_10, Classical.not_not]
          have hlp := (c_sh_lp hb cF hh (c := z) ha (nI o) (d + 199) n J K P (Nat.le_refl _)).mpr
          rw [Nat.sub_self, i32_c] at hlp
          rw [Int32.sub_eq_add_neg]
          refine hlp ?_
          rw [hd]
          dsimp only [sfi]
          have mlp : ∀ K2 : Option Value → sm_H → Prop, K2 (some (.int (shv f z (nI (alv f h P)) o + if o = j then z - shs f h z (nI (alv f h P)) P else 0))) (sm_SH n, I, J) → sm_Ok (d + 200) 209 0 [.ref 103, .int (nI h), .int (nI o), .int z, .null, .null, .null, .null] [] (sm_SH n, I, J) K2 := fun K2 h4 => by
            rw [z209_0]
            simp only [z209_1, z209_2, z209_3, z209_6, z209_9, z209_12, z209_13, z209_14, z209_15, z209_18, z209_21, z209_22, z209_23, z209_24, z209_27, z209_30, z209_35, z209_36, z209_38, z209_39, z209_41, z209_42, sm_cti, sm_ctr, sm_ctn, sm_nbi, Option.toList_some, Option.toList_none, List.cons_append, List.nil_append, ne_eq, reduceCtorEq, not_false_eq_true, Nat.reduceLeDiff, rc103, m_within, m_isOneX (show P < 2 ^ 31 by omega) mF.1, y_w0, y_v15, y_v999, y_bit, h1, h2, h3, if_true, if_false, not_true_eq_false, not_false_eq_true, and_true, true_and, and_false, false_and, and_self, or_true, true_or, or_false, false_or, reduceIte, iff_self, Int32.add_zero, y_10, Classical.not_not]
            refine (m_sh_l1 hb mF hh (nI o) z .null (d + 199) n J K2 P 0 (by omega)).mpr ?_
            simp only [z209_105, z209_106, z209_107, z209_108, z209_111, z209_112, z209_113, z209_116, z209_121, z209_122, z209_124, z209_125, sm_cti, sm_ctr, sm_ctn, sm_nbi, Option.toList_some, Option.toList_none, List.cons_append, List.nil_append, ne_eq, reduceCtorEq, not_false_eq_true, Nat.reduceLeDiff, kc103, kc104, rc103, rf103_0, eo, m_nearX hb mF hh (show o < 8 by omega), hn', y_bit, y_inN (show o < 54 by omega) (by decide), nI_clamp (show o < 2 ^ 31 by omega), if_true, if_false, not_true_eq_false, not_false_eq_true, and_true, true_and, and_false, false_and, and_self, or_true, true_or, or_false, false_or, reduceIte, iff_self, Int32.add_zero, y_10, Classical.not_not]
            have h2l := (m_sh_l2 hb mF hh (c := z) ha (nI o) (sfi (-1) (sfa f h P)) (d + 199) n J K2 P 0 (by omega)).mpr
            have es : shs f h z (nI (alv f h P)) 0 = 0 := rfl
            rw [es, Int32.sub_zero] at h2l
            refine h2l ?_
            rw [hj]
            dsimp only [sfi]
            have e8 := mF.2.2.1 (8 + o) (by omega)
            have a8 : (8 : Int32) + nI o = nI (8 + o) := nI_add 8 o
            have hv : z * nI (f (8 + o) + 1) / nI (alv f h P) = shv f z (nI (alv f h P)) o := by
              unfold shv
              rw [nI_1]
            by_cases hoj : o = j
            · have hoj' := eq_true hoj
              rw [if_pos hoj] at h4
              simp only [z209_183, z209_184, z209_185, z209_188, z209_190, z209_191, z209_192, z209_193, z209_194, z209_195, z209_196, z209_198, z209_199, z209_200, z209_202, z209_205, z209_207, z209_211, z209_212, sm_cti, sm_ctr, sm_ctn, sm_nbi, Option.toList_some, Option.toList_none, List.cons_append, List.nil_append, ne_eq, reduceCtorEq, not_false_eq_true, Nat.reduceLeDiff, kc103, kc104, rf103_0, e8, a8, ha, nI_1, hv, l1, hoj', y_inN (show 8 + o < 54 by omega) (by decide), nI_clamp (show 8 + o < 2 ^ 31 by omega), if_true, if_false, not_true_eq_false, not_false_eq_true, and_true, true_and, and_false, false_and, and_self, or_true, true_or, or_false, false_or, reduceIte, iff_self, Int32.add_zero, y_10, Classical.not_not]
              exact h4
            · rw [if_neg hoj] at h4
              simp only [z209_183, z209_184, z209_185, z209_188, z209_190, z209_191, z209_192, z209_193, z209_194, z209_195, z209_196, z209_198, z209_199, z209_200, z209_202, z209_210, z209_211, z209_212, sm_cti, sm_ctr, sm_ctn, sm_nbi, Option.toList_some, Option.toList_none, List.cons_append, List.nil_append, ne_eq, reduceCtorEq, not_false_eq_true, Nat.reduceLeDiff, kc103, kc104, rf103_0, e8, a8, ha, nI_1, hv, l1, hoj, y_inN (show 8 + o < 54 by omega) (by decide), nI_clamp (show 8 + o < 2 ^ 31 by omega), if_true, if_false, not_true_eq_false, not_false_eq_true, and_true, true_and, and_false, false_and, and_self, or_true, true_or, or_false, false_or, reduceIte, iff_self, Int32.add_zero, y_10, Classical.not_not]
              rw [Int32.add_zero] at h4
              exact h4
          by_cases hoj : o = j
          · have hoj' := eq_true hoj
            simp only [z105_116, z105_117, z105_118, z105_119, z105_121, z105_124, z105_125, z105_127, z105_130, z105_132, z105_136, z105_137, sm_cti, sm_ctr, sm_ctn, sm_nbi, Option.toList_some, Option.toList_none, List.cons_append, List.nil_append, ne_eq, reduceCtorEq, not_false_eq_true, Nat.reduceLeDiff, rc26, c_shareOf cF ha (show o < 8 by omega), l1, hoj', if_true, if_false, not_true_eq_false, not_false_eq_true, and_true, true_and, and_false, false_and, and_self, or_true, true_or, or_false, false_or, reduceIte, iff_self, Int32.add_zero, y_10, Classical.not_not]
            refine hK _ I J (fun K2 h3 => mlp K2 ?_)
            rw [if_pos hoj]
            exact h3 I J hI
          · simp only [z105_116, z105_117, z105_118, z105_119, z105_121, z105_124, z105_125, z105_127, z105_135, z105_136, z105_137, sm_cti, sm_ctr, sm_ctn, sm_nbi, Option.toList_some, Option.toList_none, List.cons_append, List.nil_append, ne_eq, reduceCtorEq, not_false_eq_true, Nat.reduceLeDiff, rc26, c_shareOf cF ha (show o < 8 by omega), l1, hoj, if_true, if_false, not_true_eq_false, not_false_eq_true, and_true, true_and, and_false, false_and, and_self, or_true, true_or, or_false, false_or, reduceIte, iff_self, Int32.add_zero, y_10, Classical.not_not]
            refine hK _ I J (fun K2 h3 => mlp K2 ?_)
            rw [if_neg hoj, Int32.add_zero]
            exact h3 I J hI
        · have hn' := eq_false hn
          simp only [z105_0, z105_1, z105_3, z105_6, z105_9, z105_10, z105_13, z105_14, z105_17, z105_20, z105_21, z105_24, z105_27, z105_30, z105_31, z105_32, z105_33, z105_36, z105_37, z105_38, z105_41, z105_44, z105_45, z105_46, z105_47, z105_50, z105_51, z105_54, z105_56, z105_58, z105_60, z105_61, z105_63, z105_64, z105_67, z105_70, z105_71, z105_72, z105_76, z105_79, z105_80, z105_83, z105_84, z105_86, z105_89, z105_92, z105_94, z105_96, z105_98, z105_99, z105_100, z105_102, z105_104, z105_107, z105_108, z105_110, z105_113, z105_116, z105_117, z105_118, z105_119, z105_121, z105_124, z105_125, z105_127, z105_130, z105_132, z105_135, z105_136, z105_137, sm_cti, sm_ctr, sm_ctn, sm_nbi, Option.toList_some, Option.toList_none, List.cons_append, List.nil_append, ne_eq, reduceCtorEq, not_false_eq_true, Nat.reduceLeDiff, kc26, rc34, rf26_2, y_within, y_isOne, cF.1, y_bit, h1, h2, h3, c_nearX hb cF hh (show o < 8 by omega), hn', if_true, if_false, not_true_eq_false, not_false_eq_true, and_true, true_and, and_false, false_and, and_self, or_true, true_or, or_false, false_or, reduceIte, iff_self, Int32.add_zero, y_10, Classical.not_not]
          refine hK _ I J (fun K2 h4 => ?_)
          rw [z209_0]
          simp only [z209_1, z209_2, z209_3, z209_6, z209_9, z209_12, z209_13, z209_14, z209_15, z209_18, z209_21, z209_22, z209_23, z209_24, z209_27, z209_30, z209_35, z209_36, z209_38, z209_39, z209_41, z209_42, sm_cti, sm_ctr, sm_ctn, sm_nbi, Option.toList_some, Option.toList_none, List.cons_append, List.nil_append, ne_eq, reduceCtorEq, not_false_eq_true, Nat.reduceLeDiff, rc103, m_within, m_isOneX (show P < 2 ^ 31 by omega) mF.1, y_w0, y_v15, y_v999, y_bit, h1, h2, h3, if_true, if_false, not_true_eq_false, not_false_eq_true, and_true, true_and, and_false, false_and, and_self, or_true, true_or, or_false, false_or, reduceIte, iff_self, Int32.add_zero, y_10, Classical.not_not]
          refine (m_sh_l1 hb mF hh (nI o) z .null (d + 199) n J K2 P 0 (by omega)).mpr ?_
          simp only [z209_105, z209_106, z209_107, z209_108, z209_111, z209_112, z209_113, z209_116, z209_119, z209_120, sm_cti, sm_ctr, sm_ctn, sm_nbi, Option.toList_some, Option.toList_none, List.cons_append, List.nil_append, ne_eq, reduceCtorEq, not_false_eq_true, Nat.reduceLeDiff, kc103, kc104, rc103, rf103_0, eo, m_nearX hb mF hh (show o < 8 by omega), hn', y_bit, y_inN (show o < 54 by omega) (by decide), nI_clamp (show o < 2 ^ 31 by omega), if_true, if_false, not_true_eq_false, not_false_eq_true, and_true, true_and, and_false, false_and, and_self, or_true, true_or, or_false, false_or, reduceIte, iff_self, Int32.add_zero, y_10, Classical.not_not]
          exact h4 I J hI
      · simp only [z105_0, z105_1, z105_3, z105_6, z105_9, z105_10, z105_13, z105_14, z105_17, z105_20, z105_21, z105_24, z105_27, z105_30, z105_31, z105_32, z105_33, z105_36, z105_37, z105_38, z105_41, z105_44, z105_45, z105_46, z105_47, z105_50, z105_51, z105_54, z105_56, z105_58, z105_60, z105_61, z105_63, z105_64, z105_67, z105_70, z105_71, z105_72, z105_76, z105_79, z105_80, z105_83, z105_84, z105_86, z105_89, z105_92, z105_94, z105_96, z105_98, z105_99, z105_100, z105_102, z105_104, z105_107, z105_108, z105_110, z105_113, z105_116, z105_117, z105_118, z105_119, z105_121, z105_124, z105_125, z105_127, z105_130, z105_132, z105_135, z105_136, z105_137, sm_cti, sm_ctr, sm_ctn, sm_nbi, Option.toList_some, Option.toList_none, List.cons_append, List.nil_append, ne_eq, reduceCtorEq, not_false_eq_true, Nat.reduceLeDiff, kc26, rc34, rf26_2, y_within, y_isOne, cF.1, y_bit, h1, h2, h3, if_true, if_false, not_true_eq_false, not_false_eq_true, and_true, true_and, and_false, false_and, and_self, or_true, true_or, or_false, false_or, reduceIte, iff_self, Int32.add_zero, y_10, Classical.not_not]
        refine hK _ I J (fun K2 h4 => ?_)
        rw [z209_0]
        simp only [z209_1, z209_2, z209_3, z209_6, z209_9, z209_12, z209_13, z209_14, z209_15, z209_18, z209_21, z209_22, z209_23, z209_24, z209_27, z209_30, z209_33, z209_34, sm_cti, sm_ctr, sm_ctn, sm_nbi, Option.toList_some, Option.toList_none, List.cons_append, List.nil_append, ne_eq, reduceCtorEq, not_false_eq_true, Nat.reduceLeDiff, rc103, m_within, m_isOneX (show P < 2 ^ 31 by omega) mF.1, y_w0, y_v15, y_v999, y_bit, h1, h2, h3, if_true, if_false, not_true_eq_false, not_false_eq_true, and_true, true_and, and_false, false_and, and_self, or_true, true_or, or_false, false_or, reduceIte, iff_self, Int32.add_zero, y_10, Classical.not_not]
        exact h4 I J hI
    · simp only [z105_0, z105_1, z105_3, z105_6, z105_9, z105_10, z105_13, z105_14, z105_17, z105_20, z105_21, z105_24, z105_27, z105_30, z105_31, z105_32, z105_33, z105_36, z105_37, z105_38, z105_41, z105_44, z105_45, z105_46, z105_47, z105_50, z105_51, z105_54, z105_56, z105_58, z105_60, z105_61, z105_63, z105_64, z105_67, z105_70, z105_71, z105_72, z105_76, z105_79, z105_80, z105_83, z105_84, z105_86, z105_89, z105_92, z105_94, z105_96, z105_98, z105_99, z105_100, z105_102, z105_104, z105_107, z105_108, z105_110, z105_113, z105_116, z105_117, z105_118, z105_119, z105_121, z105_124, z105_125, z105_127, z105_130, z105_132, z105_135, z105_136, z105_137, sm_cti, sm_ctr, sm_ctn, sm_nbi, Option.toList_some, Option.toList_none, List.cons_append, List.nil_append, ne_eq, reduceCtorEq, not_false_eq_true, Nat.reduceLeDiff, kc26, rc34, rf26_2, y_within, y_isOne, cF.1, y_bit, h1, h2, if_true, if_false, not_true_eq_false, not_false_eq_true, and_true, true_and, and_false, false_and, and_self, or_true, true_or, or_false, false_or, reduceIte, iff_self, Int32.add_zero, y_10, Classical.not_not]
      refine hK _ I J (fun K2 h4 => ?_)
      rw [z209_0]
      simp only [z209_1, z209_2, z209_3, z209_6, z209_9, z209_12, z209_13, z209_14, z209_15, z209_18, z209_33, z209_34, sm_cti, sm_ctr, sm_ctn, sm_nbi, Option.toList_some, Option.toList_none, List.cons_append, List.nil_append, ne_eq, reduceCtorEq, not_false_eq_true, Nat.reduceLeDiff, rc103, m_within, m_isOneX (show P < 2 ^ 31 by omega) mF.1, y_w0, y_v15, y_bit, h1, h2, if_true, if_false, not_true_eq_false, not_false_eq_true, and_true, true_and, and_false, false_and, and_self, or_true, true_or, or_false, false_or, reduceIte, iff_self, Int32.add_zero, y_10, Classical.not_not]
      exact h4 I J hI
  · simp only [z105_0, z105_1, z105_3, z105_6, z105_9, z105_10, z105_13, z105_14, z105_17, z105_20, z105_21, z105_24, z105_27, z105_30, z105_31, z105_32, z105_33, z105_36, z105_37, z105_38, z105_41, z105_44, z105_45, z105_46, z105_47, z105_50, z105_51, z105_54, z105_56, z105_58, z105_60, z105_61, z105_63, z105_64, z105_67, z105_70, z105_71, z105_72, z105_76, z105_79, z105_80, z105_83, z105_84, z105_86, z105_89, z105_92, z105_94, z105_96, z105_98, z105_99, z105_100, z105_102, z105_104, z105_107, z105_108, z105_110, z105_113, z105_116, z105_117, z105_118, z105_119, z105_121, z105_124, z105_125, z105_127, z105_130, z105_132, z105_135, z105_136, z105_137, sm_cti, sm_ctr, sm_ctn, sm_nbi, Option.toList_some, Option.toList_none, List.cons_append, List.nil_append, ne_eq, reduceCtorEq, not_false_eq_true, Nat.reduceLeDiff, y_within, y_bit, h1, if_true, if_false, not_true_eq_false, not_false_eq_true, and_true, true_and, and_false, false_and, and_self, or_true, true_or, or_false, false_or, reduceIte, iff_self, Int32.add_zero, y_10, Classical.not_not]
    refine hK _ I J (fun K2 h4 => ?_)
    rw [z209_0]
    simp only [z209_1, z209_2, z209_3, z209_6, z209_9, z209_33, z209_34, sm_cti, sm_ctr, sm_ctn, sm_nbi, Option.toList_some, Option.toList_none, List.cons_append, List.nil_append, ne_eq, reduceCtorEq, not_false_eq_true, Nat.reduceLeDiff, m_within, y_w0, y_v15, y_bit, h1, if_true, if_false, not_true_eq_false, not_false_eq_true, and_true, true_and, and_false, false_and, and_self, or_true, true_or, or_false, false_or, reduceIte, iff_self, Int32.add_zero, y_10, Classical.not_not]
    exact h4 I J hI
