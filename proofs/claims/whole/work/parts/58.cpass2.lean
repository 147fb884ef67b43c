/-! an evening of the class: the whole -/
section
variable {P D : Nat} {f a b : Nat → Nat} {lo : Option ((Nat → Nat) × Nat)}
theorem psg_ev (g : Nat → Nat) (e : Nat) : psg P D f a b lo g e 53 = min 99 (g 53 + 1) := by
  unfold psg
  rw [if_pos rfl]
theorem psg_m (hb : bdf P D f a b) (g : Nat → Nat) {e : Nat} (hD : e < D) {p : Nat} (hp : p < 8) : psg P D f a b lo g e (32 + p) = if p = a e then (if 0 < pay P D f a b lo g e then mvt P f a b lo e (g (32 + a e)) (g (40 + e)) (g 53) - 10 else mvt P f a b lo e (g (32 + a e)) (g (40 + e)) (g 53)) else if p < P then g (32 + p) - 1 else g (32 + p) := by
  obtain ⟨b1, b2, b3, b4⟩ := hb
  obtain ⟨c1, c2, c3⟩ := b4 e hD
  unfold psg
  rw [if_neg (by omega), if_pos hD]
  by_cases h1 : p = a e
  · rw [if_pos (by omega), if_pos h1]
  · rw [if_neg (by omega), if_neg h1]
    by_cases h2 : p < P
    · rw [if_pos (by omega), if_pos h2]
    · rw [if_neg (by omega), if_neg h2, if_neg (by omega), if_neg (by omega)]
theorem psg_p (hb : bdf P D f a b) (g : Nat → Nat) {e : Nat} (hD : e < D) {p : Nat} (hp : p < 8) : psg P D f a b lo g e (24 + p) = if p = a e then g (24 + p) - pay P D f a b lo g e else if p = b e then min 999 (g (24 + p) + pay P D f a b lo g e) else g (24 + p) := by
  obtain ⟨b1, b2, b3, b4⟩ := hb
  obtain ⟨c1, c2, c3⟩ := b4 e hD
  unfold psg
  rw [if_neg (by omega), if_pos hD, if_neg (by omega), if_neg (by omega)]
  by_cases h1 : p = a e
  · rw [if_pos (by omega), if_pos h1]
  · rw [if_neg (by omega), if_neg h1]
    by_cases h2 : p = b e
    · rw [if_pos (by omega), if_pos h2]
    · rw [if_neg (by omega), if_neg h2]
theorem psg_s (hb : bdf P D f a b) (g : Nat → Nat) {e : Nat} (hD : e < D) {o : Nat} (ho : o < 12) : psg P D f a b lo g e (40 + o) = if o = e then g (40 + o) - pay P D f a b lo g e else g (40 + o) := by
  obtain ⟨b1, b2, b3, b4⟩ := hb
  obtain ⟨c1, c2, c3⟩ := b4 e hD
  unfold psg
  rw [if_neg (by omega), if_pos hD, if_neg (by omega), if_neg (by omega)]
  by_cases h1 : o = e
  · rw [if_pos (by omega), if_pos h1]
  · rw [if_neg (by omega), if_neg h1, if_neg (by omega)]
theorem psg_m' (h8 : P ≤ 8) (g : Nat → Nat) {e : Nat} (hD : ¬ e < D) {p : Nat} (hp : p < 8) : psg P D f a b lo g e (32 + p) = if p < P then g (32 + p) - 1 else g (32 + p) := by
  unfold psg
  rw [if_neg (by omega), if_neg hD]
  by_cases h2 : p < P
  · rw [if_pos (by omega), if_pos h2]
  · rw [if_neg (by omega), if_neg h2]
theorem psg_p' (g : Nat → Nat) {e : Nat} (hD : ¬ e < D) {p : Nat} (hp : p < 8) : psg P D f a b lo g e (24 + p) = g (24 + p) := by
  unfold psg
  rw [if_neg (by omega), if_neg hD, if_neg (by omega)]
theorem psg_s' (h8 : P ≤ 8) (g : Nat → Nat) {e : Nat} (hD : ¬ e < D) {o : Nat} (ho : o < 12) : psg P D f a b lo g e (40 + o) = g (40 + o) := by
  unfold psg
  rw [if_neg (by omega), if_neg hD, if_neg (by omega)]
theorem c_pass_lp {q : Nat} (hq : tq q) (h8 : P ≤ 8) {h : Nat → Nat} (hh : ∀ p, p < 8 → h p ≤ 99) {wv : Int32} {W : Nat} (hW : ∀ p, p < 8 → (nI p = wv ↔ p = W)) (x2 : Int32) (pd : Nat) (d n : Nat) (J : sm_J) (K : Option Value → sm_H → Prop) {I : sm_I} (hP : I 34 6 = nI P) : ∀ (w k : Nat), k + w = P → ∀ I1 : sm_I, (∀ x c, ¬ x = q + 2 → I1 x c = I x c) → (∀ p, p < 8 → I1 (q + 2) p = nI (if p < k ∧ p ≠ W then h p - 1 else h p)) →
    (∀ I', (∀ x c, ¬ (x = q + 2 ∨ x = q) → I' x c = I x c) → I' q 3 = (if I q 3 + 1 < 99 then I q 3 + 1 else 99) → (∀ p, p < 8 → I' (q + 2) p = nI (if p < P ∧ p ≠ W then h p - 1 else h p)) → K (some (.int (nI pd))) (sm_SH n, I', J)) →
    sm_Ok d 17 101 [.ref 34, .ref q, .int x2, .int wv, .int (nI pd), .int (nI k)] [] (sm_SH n, I1, J) K
  | 0, k, hk, I1, f1, f2, hK => by
    have hk : k = P := by omega
    subst hk
    obtain ⟨k1, k2, k3, k4, k5, k6, k7⟩ := tq_k hq
    have hq' := hq
    unfold tq at hq'
    have eP : I1 34 6 = nI k := by rw [f1 _ _ (by omega), hP]
    have e3 : I1 q 3 = I q 3 := f1 _ _ (by omega)
    rw [z17_101]
    simp only [z17_0, z17_1, z17_2, z17_5, z17_8, z17_9, z17_12, z17_13, z17_14, z17_17, z17_18, z17_19, z17_20, z17_22, z17_23, z17_26, z17_27, z17_28, z17_29, z17_32, z17_33, z17_34, z17_35, z17_38, z17_39, z17_40, z17_41, z17_44, z17_47, z17_49, z17_50, z17_51, z17_52, z17_54, z17_57, z17_59, z17_60, z17_63, z17_64, z17_66, z17_69, z17_70, z17_72, z17_74, z17_75, z17_78, z17_81, z17_83, z17_84, z17_85, z17_86, z17_88, z17_89, z17_90, z17_93, z17_94, z17_95, z17_98, z17_99, z17_103, z17_104, z17_107, z17_110, z17_112, z17_113, z17_116, z17_117, z17_120, z17_122, z17_123, z17_126, z17_127, z17_130, z17_132, z17_133, z17_134, z17_135, z17_136, z17_137, z17_140, z17_143, z17_144, z17_146, z17_147, z17_150, z17_151, z17_152, z17_155, z17_158, z17_160, sm_cti, sm_ctr, sm_ctn, sm_nbi, Option.toList_some, Option.toList_none, List.cons_append, List.nil_append, ne_eq, reduceCtorEq, not_false_eq_true, Nat.reduceLeDiff, kc34, k1, eP, e3, Int32.le_refl, if_true, if_false, not_true_eq_false, not_false_eq_true, and_true, true_and, and_false, false_and, and_self, or_true, true_or, or_false, false_or, reduceIte, iff_self, Int32.add_zero, y_10, Classical.not_not]
    exact hK _ (fun x c hx => by rw [uI_q _ _ (by omega), f1 x c (by omega)]) (uI_s _ _ _ _) (fun p hp => by rw [uI_q _ _ (by omega), f2 p hp])
  | w + 1, k, hk, I1, f1, f2, hK => by
    obtain ⟨k1, k2, k3, k4, k5, k6, k7⟩ := tq_k hq
    have hq' := hq
    unfold tq at hq'
    have hkP : k < P := by omega
    have eP : I1 34 6 = nI P := by rw [f1 _ _ (by omega), hP]
    have q0 : ¬ q + 2 = 0 := by omega
    have q26 : 26 ≤ q + 2 := by omega
    have vk : I1 (q + 2) k = nI (h k) := by rw [f2 k (by omega), if_neg (by omega)]
    have hk9 := hh k (by omega)
    have e0 : (nI (h k) ≤ 0) = (h k = 0) := propext (Iff.trans (nI_leI (b := 0) (by omega) (by decide)) (by omega))
    have next : ∀ I2 : sm_I, (∀ x c, ¬ x = q + 2 → I2 x c = I x c) → (∀ p, p < 8 → I2 (q + 2) p = nI (if p < k + 1 ∧ p ≠ W then h p - 1 else h p)) → sm_Ok d 17 101 [.ref 34, .ref q, .int x2, .int wv, .int (nI pd), .int (nI (k + 1))] [] (sm_SH n, I2, J) K := fun I2 g1 g2 => c_pass_lp hq h8 hh hW x2 pd d n J K hP w (k + 1) (by omega) I2 g1 g2 hK
    rw [z17_101]
    simp only [z17_103, z17_104, z17_107, z17_110, z17_112, z17_113, z17_116, z17_117, z17_120, z17_122, z17_123, z17_126, z17_127, z17_130, z17_132, z17_133, z17_134, z17_135, z17_136, z17_137, z17_140, sm_cti, sm_ctr, sm_ctn, sm_nbi, Option.toList_some, Option.toList_none, List.cons_append, List.nil_append, ne_eq, reduceCtorEq, not_false_eq_true, Nat.reduceLeDiff, kc34, k1, k3, k6, q0, q26, eP, if_neg (nI_ge hkP (show P < 2 ^ 31 by omega)), hW k (by omega), y_inN (show k < 8 by omega) (by decide), nI_clamp (show k < 2 ^ 31 by omega), vk, e0, nI_1, if_true, if_false, not_true_eq_false, not_false_eq_true, and_true, true_and, and_false, false_and, and_self, or_true, true_or, or_false, false_or, reduceIte, iff_self, Int32.add_zero, y_10, Classical.not_not]
    by_cases hw : k = W
    · simp only [hw, if_true, if_false, not_true_eq_false, not_false_eq_true, and_true, true_and, and_false, false_and, and_self, or_true, true_or, or_false, false_or, reduceIte, iff_self, Int32.add_zero, y_10, Classical.not_not]
      rw [← hw]
      refine next I1 f1 (fun p hp => ?_)
      rw [f2 p hp]
      by_cases hpk : p < k ∧ p ≠ W
      · rw [if_pos hpk, if_pos ⟨by omega, hpk.2⟩]
      · rw [if_neg hpk, if_neg (by omega)]
    · by_cases h0 : h k = 0
      · simp only [hw, h0, if_true, if_false, not_true_eq_false, not_false_eq_true, and_true, true_and, and_false, false_and, and_self, or_true, true_or, or_false, false_or, reduceIte, iff_self, Int32.add_zero, y_10, Classical.not_not]
        refine next I1 f1 (fun p hp => ?_)
        rw [f2 p hp]
        by_cases hpk : p < k ∧ p ≠ W
        · rw [if_pos hpk, if_pos ⟨by omega, hpk.2⟩]
        · rw [if_neg hpk]
          by_cases hpe : p = k
          · rw [if_pos ⟨by omega, by omega⟩, hpe, h0]
          · rw [if_neg (by omega)]
      · have e1 : nI (h k) - 1 = nI (h k - 1) := nI_sub (a := h k) (b := 1) (by omega)
        simp only [hw, h0, e1, q26, y_inN (show k < 8 by omega) (by decide), nI_clamp (show k < 2 ^ 31 by omega), vk, k6, q0, if_true, if_false, not_true_eq_false, not_false_eq_true, and_true, true_and, and_false, false_and, and_self, or_true, true_or, or_false, false_or, reduceIte, iff_self, Int32.add_zero, y_10, Classical.not_not]
        refine next _ (fun x c hx => by rw [uI_q _ _ hx, f1 x c hx]) (fun p hp => ?_)
        by_cases hpe : p = k
        · rw [hpe, uI_s, if_pos ⟨by omega, hw⟩]
        · rw [uI_o _ _ (by omega), f2 p hp]
          by_cases hpk : p < k ∧ p ≠ W
          · rw [if_pos hpk, if_pos ⟨by omega, hpk.2⟩]
          · rw [if_neg hpk, if_neg (by omega)]
theorem c_pay {q : Nat} (hq : tq q) {g : Nat → Nat} (hg : bdg g) {I : sm_I} {e v wa wb : Nat} (he : e < 12) (ha : wa < 8) (hb : wb < 8) (hne : wa ≠ wb) (hv1 : v ≤ g (40 + e)) (hv2 : v ≤ g (24 + wa)) (i1 : I (q + 3) e = nI (g (40 + e))) (i2 : I (q + 1) wa = nI (g (24 + wa))) (i3 : I (q + 1) wb = nI (g (24 + wb))) (d n : Nat) (J : sm_J) (K : Option Value → sm_H → Prop) :
    sm_Ok d 63 0 [.ref q, .int (nI e), .int (nI v), .int (nI wa), .int (nI wb)] [] (sm_SH n, I, J) K ↔ K none (sm_SH n, sm_uI (sm_uI (sm_uI I (q + 3) e (nI (g (40 + e) - v))) (q + 1) wa (nI (g (24 + wa) - v))) (q + 1) wb (nI (min 999 (g (24 + wb) + v))), J) := by
  obtain ⟨k1, k2, k3, k4, k5, k6, k7⟩ := tq_k hq
  have hq' := hq
  unfold tq at hq'
  have q0 : ¬ q + 3 = 0 := by omega
  have q1 : ¬ q + 1 = 0 := by omega
  have q3 : 26 ≤ q + 3 := by omega
  have q4 : 26 ≤ q + 1 := by omega
  have t1 := top_le (40 + e)
  have t2 := top_le (24 + wb)
  have g1 := hg (40 + e) (by omega) (by omega) (by omega)
  have g2 := hg (24 + wb) (by omega) (by omega) (by omega)
  have u1 : sm_uI I (q + 3) e (nI (g (40 + e) - v)) (q + 1) wa = nI (g (24 + wa)) := by rw [uI_q _ _ (by omega), i2]
  have u2 : sm_uI (sm_uI I (q + 3) e (nI (g (40 + e) - v))) (q + 1) wa (nI (g (24 + wa) - v)) (q + 1) wb = nI (g (24 + wb)) := by rw [uI_o _ _ (by omega), uI_q _ _ (by omega), i3]
  have e1 : nI (g (40 + e)) - nI v = nI (g (40 + e) - v) := nI_sub hv1
  have e2 : nI (g (24 + wa)) - nI v = nI (g (24 + wa) - v) := nI_sub hv2
  have e3 : (if nI (g (24 + wb)) + nI v < 999 then nI (g (24 + wb)) + nI v else 999) = nI (min 999 (g (24 + wb) + v)) := by
    rw [nI_add]
    exact nI_min (a := 999) (by decide) (by omega)
  simp only [z63_0, z63_1, z63_4, z63_5, z63_6, z63_7, z63_8, z63_9, z63_10, z63_11, z63_14, z63_15, z63_16, z63_17, z63_18, z63_19, z63_20, z63_21, z63_24, z63_26, z63_29, z63_30, z63_33, z63_35, z63_36, z63_37, z63_38, z63_41, z63_42, sm_cti, sm_ctr, sm_ctn, sm_nbi, Option.toList_some, Option.toList_none, List.cons_append, List.nil_append, ne_eq, reduceCtorEq, not_false_eq_true, Nat.reduceLeDiff, k1, k2, k4, k5, k7, q0, q1, q3, q4, y_inN he (by decide), nI_clamp (show e < 2 ^ 31 by omega), y_inN ha (by decide), nI_clamp (show wa < 2 ^ 31 by omega), y_inN hb (by decide), nI_clamp (show wb < 2 ^ 31 by omega), i1, u1, u2, e1, e2, e3, if_true, if_false, not_true_eq_false, not_false_eq_true, and_true, true_and, and_false, false_and, and_self, or_true, true_or, or_false, false_or, reduceIte, iff_self, Int32.add_zero, y_10, Classical.not_not]
theorem c_pass (hb : bdf P D f a b) {I : sm_I} (hF : cFo P D f a b I) (hL : cLw lo I) {q : Nat} (hq : tq q) {g : Nat → Nat} (hg : bdg g) (hT : cTa q g I) {e : Nat} (he : e < 2 ^ 31) (d n : Nat) (J : sm_J) (K : Option Value → sm_H → Prop)
    (hK : ∀ I', (∀ x c, ¬ (x = 29 ∨ x = 30 ∨ (q ≤ x ∧ x < q + 4)) → I' x c = I x c) → cTa q (psg P D f a b lo g e) I' → K (some (.int (nI (pay P D f a b lo g e)))) (sm_SH n, I', J)) :
    sm_Ok (d + 4) 17 0 [.ref 34, .ref q, .int (nI e), .null, .null, .null] [] (sm_SH n, I, J) K := by
  obtain ⟨b1, b2, b3, b4⟩ := id hb
  obtain ⟨F1, F2, F3, F4, F5⟩ := id hF
  obtain ⟨T1, T2, T3⟩ := id hT
  obtain ⟨k1, k2, k3, k4, k5, k6, k7⟩ := tq_k hq
  have hq' := hq
  unfold tq at hq'
  have g53 : g 53 ≤ 99 := hg 53 (by omega) (by omega) (by omega)
  have e53 : (if nI (g 53) + 1 < 99 then nI (g 53) + 1 else 99) = nI (min 99 (g 53 + 1)) := by
    rw [nI_1]
    exact nI_min (a := 99) (by decide) (by omega)
  have gm : ∀ p, p < 8 → g (32 + p) ≤ 99 := fun p hp => by
    have := hg (32 + p) (by omega) (by omega) (by omega)
    rw [top_m (by omega)] at this
    exact this
  by_cases hD : e < D
  · obtain ⟨c1, c2, c3⟩ := b4 e hD
    have i38 := (F5 e hD).1
    have im := (T1 (a e) (by omega)).2
    have is := T2 e (by omega)
    have hd1 : (0 : Int32) ≤ nI e ∧ nI e < nI D := y_idx_of hD (by omega)
    have pl0 := nI_pos (show a e < 2 ^ 31 by omega)
    have q0 : ¬ q + 2 = 0 := by omega
    have q3 : ¬ q + 3 = 0 := by omega
    simp only [z17_0, z17_1, z17_2, z17_5, z17_8, z17_9, z17_12, z17_13, z17_14, z17_17, z17_18, z17_19, z17_20, z17_22, z17_23, z17_26, z17_27, z17_28, z17_29, z17_32, z17_33, z17_34, z17_35, z17_38, z17_39, z17_40, z17_41, z17_44, z17_47, z17_49, z17_50, z17_51, z17_52, z17_54, z17_57, z17_59, z17_60, z17_63, z17_64, z17_66, z17_69, z17_70, z17_72, z17_74, z17_75, z17_78, z17_81, z17_83, z17_84, z17_85, z17_86, z17_88, z17_89, z17_90, z17_93, z17_94, z17_95, z17_98, z17_99, z17_103, z17_104, z17_107, z17_110, z17_112, z17_113, z17_116, z17_117, z17_120, z17_122, z17_123, z17_126, z17_127, z17_130, z17_132, z17_133, z17_134, z17_135, z17_136, z17_137, z17_140, z17_143, z17_144, z17_146, z17_147, z17_150, z17_151, z17_152, z17_155, z17_158, z17_160, sm_cti, sm_ctr, sm_ctn, sm_nbi, Option.toList_some, Option.toList_none, List.cons_append, List.nil_append, ne_eq, reduceCtorEq, not_false_eq_true, Nat.reduceLeDiff, kc34, kc38, rf34_3, rc34, k1, k3, k4, k6, k7, q0, q3, F2, y_isDebt, hd1, i38, im, is, T3, pl0, y_bit, y_inN (show e < 12 by omega) (by decide), nI_clamp (show e < 2 ^ 31 by omega), y_inN (show a e < 8 by omega) (by decide), nI_clamp (show a e < 2 ^ 31 by omega), if_true, if_false, not_true_eq_false, not_false_eq_true, and_true, true_and, and_false, false_and, and_self, or_true, true_or, or_false, false_or, reduceIte, iff_self, Int32.add_zero, y_10, Classical.not_not]
    refine c_movedTo hb hF hL hD (gm _ (by omega)) _ _ d n J _ (fun I1 f1 => ?_)
    have hm : mvt P f a b lo e (g (32 + a e)) (g (40 + e)) (g 53) ≤ 99 := Nat.min_le_left _ _
    have hF1 : cFo P D f a b I1 := cFo_f hF (fun x c h1 h2 => f1 x c (by omega))
    have hT1 : cTa q g I1 := cTa_f hT (fun x c h1 h2 => f1 x c (by omega))
    obtain ⟨pl1, pl2, pl3⟩ := pay_le (P := P) (D := D) (f := f) (a := a) (b := b) lo g e
    have epay : (if mvt P f a b lo e (g (32 + a e)) (g (40 + e)) (g 53) < 20 then 0 else min (mvt P f a b lo e (g (32 + a e)) (g (40 + e)) (g 53) / 10) (min (g (40 + e)) (g (24 + a e)))) = pay P D f a b lo g e := by
      unfold pay
      rw [if_pos hD]
    have pm := fun d K => c_payment hb hF1 hq hg hT1 hD hm d n J K
    rw [epay] at pm
    have i39 : I1 39 e = nI (b e) := (hF1.2.2.2.2 e hD).2
    generalize hMM : mvt P f a b lo e (g (32 + a e)) (g (40 + e)) (g 53) = M at *
    generalize hPP : pay P D f a b lo g e = Y at *
    have q26 : 26 ≤ q + 2 := by omega
    have e0 : (nI Y ≤ 0) = (Y = 0) := propext (Iff.trans (nI_leI (b := 0) (by omega) (by decide)) (by omega))
    -- from the storing of moved on
    have go : ∀ M' : Nat, M' = (if 0 < Y then M - 10 else M) → sm_Ok (d + 4) 17 83 [.ref 34, .ref q, .int (nI e), .int (nI (a e)), .int (nI Y), .int (nI M)] [.int (nI M'), .int (nI (a e)), .ref (q + 2)] (sm_SH n, I1, J) K := by
      intro M' hM'
      have p1 : sm_uI I1 (q + 2) (a e) (nI M') 39 e = nI (b e) := by rw [uI_q _ _ (by omega), i39]
      have j1 : sm_uI I1 (q + 2) (a e) (nI M') (q + 3) e = nI (g (40 + e)) := by rw [uI_q _ _ (by omega), hT1.2.1 e (by omega)]
      have j2 : sm_uI I1 (q + 2) (a e) (nI M') (q + 1) (a e) = nI (g (24 + a e)) := by rw [uI_q _ _ (by omega), (hT1.1 (a e) (by omega)).1]
      have j3 : sm_uI I1 (q + 2) (a e) (nI M') (q + 1) (b e) = nI (g (24 + b e)) := by rw [uI_q _ _ (by omega), (hT1.1 (b e) (by omega)).1]
      have cp := fun d K => c_pay hq hg (I := sm_uI I1 (q + 2) (a e) (nI M')) (e := e) (v := Y) (wa := a e) (wb := b e) (by omega) (by omega) (by omega) c3 (pl2 hD).1 (pl2 hD).2 j1 j2 j3 d n J K
      simp only [z17_0, z17_1, z17_2, z17_5, z17_8, z17_9, z17_12, z17_13, z17_14, z17_17, z17_18, z17_19, z17_20, z17_22, z17_23, z17_26, z17_27, z17_28, z17_29, z17_32, z17_33, z17_34, z17_35, z17_38, z17_39, z17_40, z17_41, z17_44, z17_47, z17_49, z17_50, z17_51, z17_52, z17_54, z17_57, z17_59, z17_60, z17_63, z17_64, z17_66, z17_69, z17_70, z17_72, z17_74, z17_75, z17_78, z17_81, z17_83, z17_84, z17_85, z17_86, z17_88, z17_89, z17_90, z17_93, z17_94, z17_95, z17_98, z17_99, z17_103, z17_104, z17_107, z17_110, z17_112, z17_113, z17_116, z17_117, z17_120, z17_122, z17_123, z17_126, z17_127, z17_130, z17_132, z17_133, z17_134, z17_135, z17_136, z17_137, z17_140, z17_143, z17_144, z17_146, z17_147, z17_150, z17_151, z17_152, z17_155, z17_158, z17_160, sm_cti, sm_ctr, sm_ctn, sm_nbi, Option.toList_some, Option.toList_none, List.cons_append, List.nil_append, ne_eq, reduceCtorEq, not_false_eq_true, Nat.reduceLeDiff, kc34, kc39, rf34_4, sm_rc_of k1, k6, q0, q26, p1, cp, y_inN (show e < 12 by omega) (by decide), nI_clamp (show e < 2 ^ 31 by omega), y_inN (show a e < 8 by omega) (by decide), nI_clamp (show a e < 2 ^ 31 by omega), if_true, if_false, not_true_eq_false, not_false_eq_true, and_true, true_and, and_false, false_and, and_self, or_true, true_or, or_false, false_or, reduceIte, iff_self, Int32.add_zero, y_10, Classical.not_not]
      rw [show (0 : Int32) = nI 0 from nI_0.symm]
      have hM9 : M' ≤ 99 := by
        rw [hM']
        split <;> omega
      refine c_pass_lp hq b1 (h := fun p => if p = a e then M' else g (32 + p)) (fun p hp => ?_) (wv := nI (a e)) (W := a e) (fun p hp => nI_eq (by omega) (by omega)) _ _ _ n J K (by rw [uI_q _ _ (by omega), uI_q _ _ (by omega), uI_q _ _ (by omega), uI_q _ _ (by omega), hF1.1]) P 0 (by omega) _ (fun x c _ => rfl) (fun p hp => ?_) (fun I' w1 w2 w3 => ?_)
      · split
        · exact hM9
        · exact gm p hp
      · rw [if_neg (by omega), uI_q _ _ (by omega), uI_q _ _ (by omega), uI_q _ _ (by omega)]
        by_cases hp2 : p = a e
        · rw [if_pos hp2, hp2, uI_s]
        · rw [if_neg hp2, uI_o _ _ (by omega), (hT1.1 p hp).2]
      · refine hK I' (fun x c hx => ?_) ⟨fun p hp => ⟨?_, ?_⟩, fun o ho => ?_, ?_⟩
        · rw [w1 x c (by omega), uI_q _ _ (by omega), uI_q _ _ (by omega), uI_q _ _ (by omega), uI_q _ _ (by omega), f1 x c (by omega)]
        · rw [w1 _ _ (by omega), psg_p hb g hD hp, hPP]
          by_cases h1 : p = b e
          · have h2 : ¬ p = a e := by omega
            rw [if_neg h2, if_pos h1, h1, uI_s]
          · rw [uI_o _ _ (by omega), if_neg h1]
            by_cases h2 : p = a e
            · rw [if_pos h2, h2, uI_s]
            · rw [if_neg h2, uI_o _ _ (by omega), uI_q _ _ (by omega), uI_q _ _ (by omega), (hT1.1 p hp).1]
        · rw [w3 p hp, psg_m hb g hD hp, hPP, hMM]
          congr 1
          by_cases h2 : p = a e
          · rw [if_pos h2, if_neg (by omega), if_pos h2, hM']
          · rw [if_neg h2, if_neg h2]
            by_cases h3 : p < P
            · rw [if_pos h3, if_pos ⟨h3, h2⟩]
            · rw [if_neg h3, if_neg (by omega)]
        · rw [w1 _ _ (by omega), uI_q _ _ (by omega), uI_q _ _ (by omega), psg_s hb g hD ho, hPP]
          by_cases h1 : o = e
          · rw [if_pos h1, h1, uI_s]
          · rw [if_neg h1, uI_o _ _ (by omega), uI_q _ _ (by omega), hT1.2.1 o ho]
        · rw [w2, uI_q _ _ (by omega), uI_q _ _ (by omega), uI_q _ _ (by omega), uI_q _ _ (by omega), hT1.2.2, e53, psg_ev]
    have q2k : sm_kc (q + 2) = (1, 8) := k6
    by_cases hY : Y = 0
    · have G := go M (by rw [if_neg (by omega)])
      simp only [z17_0, z17_1, z17_2, z17_5, z17_8, z17_9, z17_12, z17_13, z17_14, z17_17, z17_18, z17_19, z17_20, z17_22, z17_23, z17_26, z17_27, z17_28, z17_29, z17_32, z17_33, z17_34, z17_35, z17_38, z17_39, z17_40, z17_41, z17_44, z17_47, z17_49, z17_50, z17_51, z17_52, z17_54, z17_57, z17_59, z17_60, z17_63, z17_64, z17_66, z17_69, z17_70, z17_72, z17_74, z17_75, z17_78, z17_81, z17_83, z17_84, z17_85, z17_86, z17_88, z17_89, z17_90, z17_93, z17_94, z17_95, z17_98, z17_99, z17_103, z17_104, z17_107, z17_110, z17_112, z17_113, z17_116, z17_117, z17_120, z17_122, z17_123, z17_126, z17_127, z17_130, z17_132, z17_133, z17_134, z17_135, z17_136, z17_137, z17_140, z17_143, z17_144, z17_146, z17_147, z17_150, z17_151, z17_152, z17_155, z17_158, z17_160, sm_cti, sm_ctr, sm_ctn, sm_nbi, Option.toList_some, Option.toList_none, List.cons_append, List.nil_append, ne_eq, reduceCtorEq, not_false_eq_true, Nat.reduceLeDiff, rc34, k1, k3, pm, e0, hY, if_true, if_false, not_true_eq_false, not_false_eq_true, and_true, true_and, and_false, false_and, and_self, or_true, true_or, or_false, false_or, reduceIte, iff_self, Int32.add_zero, y_10, Classical.not_not] at G ⊢
      rw [if_pos (by decide)]
      exact G
    · have G := go (M - 10) (by rw [if_pos (by omega)])
      have h20 := pl3 hD (by omega)
      have eM : nI M - 10 = nI (M - 10) := nI_sub (a := M) (b := 10) (by omega)
      have eX : (if (0 : Int32) < nI (M - 10) then nI (M - 10) else 0) = nI (M - 10) := by
        have := nI_max (a := 0) (b := M - 10) (by omega) (by omega)
        rw [nI_0] at this
        rw [this, Nat.zero_max]
      simp only [z17_0, z17_1, z17_2, z17_5, z17_8, z17_9, z17_12, z17_13, z17_14, z17_17, z17_18, z17_19, z17_20, z17_22, z17_23, z17_26, z17_27, z17_28, z17_29, z17_32, z17_33, z17_34, z17_35, z17_38, z17_39, z17_40, z17_41, z17_44, z17_47, z17_49, z17_50, z17_51, z17_52, z17_54, z17_57, z17_59, z17_60, z17_63, z17_64, z17_66, z17_69, z17_70, z17_72, z17_74, z17_75, z17_78, z17_81, z17_83, z17_84, z17_85, z17_86, z17_88, z17_89, z17_90, z17_93, z17_94, z17_95, z17_98, z17_99, z17_103, z17_104, z17_107, z17_110, z17_112, z17_113, z17_116, z17_117, z17_120, z17_122, z17_123, z17_126, z17_127, z17_130, z17_132, z17_133, z17_134, z17_135, z17_136, z17_137, z17_140, z17_143, z17_144, z17_146, z17_147, z17_150, z17_151, z17_152, z17_155, z17_158, z17_160, sm_cti, sm_ctr, sm_ctn, sm_nbi, Option.toList_some, Option.toList_none, List.cons_append, List.nil_append, ne_eq, reduceCtorEq, not_false_eq_true, Nat.reduceLeDiff, rc34, k1, k3, pm, e0, hY, eM, eX, if_true, if_false, not_true_eq_false, not_false_eq_true, and_true, true_and, and_false, false_and, and_self, or_true, true_or, or_false, false_or, reduceIte, iff_self, Int32.add_zero, y_10, Classical.not_not] at G ⊢
      exact G
  · have hd1 : ¬ ((0 : Int32) ≤ nI e ∧ nI e < nI D) := fun z => hD ((nI_ltI he (by omega)).mp z.2)
    have hm1 : (-1 : Int32) < 0 := by decide
    have epay : pay P D f a b lo g e = 0 := by
      unfold pay
      rw [if_neg hD]
    rw [epay] at hK
    simp only [z17_0, z17_1, z17_2, z17_5, z17_8, z17_9, z17_12, z17_13, z17_14, z17_17, z17_18, z17_19, z17_20, z17_22, z17_23, z17_26, z17_27, z17_28, z17_29, z17_32, z17_33, z17_34, z17_35, z17_38, z17_39, z17_40, z17_41, z17_44, z17_47, z17_49, z17_50, z17_51, z17_52, z17_54, z17_57, z17_59, z17_60, z17_63, z17_64, z17_66, z17_69, z17_70, z17_72, z17_74, z17_75, z17_78, z17_81, z17_83, z17_84, z17_85, z17_86, z17_88, z17_89, z17_90, z17_93, z17_94, z17_95, z17_98, z17_99, z17_103, z17_104, z17_107, z17_110, z17_112, z17_113, z17_116, z17_117, z17_120, z17_122, z17_123, z17_126, z17_127, z17_130, z17_132, z17_133, z17_134, z17_135, z17_136, z17_137, z17_140, z17_143, z17_144, z17_146, z17_147, z17_150, z17_151, z17_152, z17_155, z17_158, z17_160, sm_cti, sm_ctr, sm_ctn, sm_nbi, Option.toList_some, Option.toList_none, List.cons_append, List.nil_append, ne_eq, reduceCtorEq, not_false_eq_true, Nat.reduceLeDiff, kc34, rc34, F2, y_isDebt, hd1, hm1, y_bit, if_true, if_false, not_true_eq_false, not_false_eq_true, and_true, true_and, and_false, false_and, and_self, or_true, true_or, or_false, false_or, reduceIte, iff_self, Int32.add_zero, y_10, Classical.not_not]
    rw [show (0 : Int32) = nI 0 from nI_0.symm]
    refine c_pass_lp hq b1 (h := fun p => g (32 + p)) gm (wv := -1) (W := 8) (fun p hp => ⟨fun z => absurd z (y_nm1 (by omega)), fun z => absurd z (by omega)⟩) _ _ _ n J K F1 P 0 (by omega) _ (fun x c _ => rfl) (fun p hp => by rw [if_neg (by omega), (T1 p hp).2]) (fun I' w1 w2 w3 => ?_)
    refine hK I' (fun x c hx => by rw [w1 x c (by omega)]) ⟨fun p hp => ⟨?_, ?_⟩, fun o ho => ?_, ?_⟩
    · rw [w1 _ _ (by omega), (T1 p hp).1, psg_p' g hD hp]
    · rw [w3 p hp, psg_m' b1 g hD hp]
      by_cases h3 : p < P
      · rw [if_pos ⟨h3, by omega⟩, if_pos h3]
      · rw [if_neg (by omega), if_neg h3]
    · rw [w1 _ _ (by omega), T2 o ho, psg_s' b1 g hD ho]
    · rw [w2, T3, e53, psg_ev]
end
