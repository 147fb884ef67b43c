/-! both answer alike: byTurns -/
section
variable {P D : Nat} {f a b : Nat → Nat} {lo : Option ((Nat → Nat) × Nat)}
/-- what the turns that are left are worth -/
def twv (P : Nat) (f a b : Nat → Nat) (lo : Option ((Nat → Nat) × Nat)) (e v : Nat) : Nat → Bool → Nat → Nat → Nat → Int32
  | 0, _, m, s, p => nI (min (m / 10) (min s p))
  | k + 1, sg, m, s, p => if sg = true then (if twv P f a b lo e v k false m s p < twv P f a b lo e v k false (mvt P f a b lo e m s v) s p - 3 then twv P f a b lo e v k false (mvt P f a b lo e m s v) s p - 3 else twv P f a b lo e v k false m s p)
    else (if twv P f a b lo e v k true m (s - min 10 (min s p)) (p - min 10 (min s p)) + nI (min 10 (min s p)) < twv P f a b lo e v k true m s p then twv P f a b lo e v k true m (s - min 10 (min s p)) (p - min 10 (min s p)) + nI (min 10 (min s p)) else twv P f a b lo e v k true m s p)
theorem c_tw (hb : bdf P D f a b) {e : Nat} (he : e < D) : ∀ (k : Nat) (sg : Bool) (m s p : Nat), k ≤ 6 → m ≤ 99 → s ≤ 999 → p ≤ 999 → ∀ (d n : Nat) (J : sm_J) (K : Option Value → sm_H → Prop) (I : sm_I), cFo P D f a b I → cLw lo I → I 40 3 = nI (f 53) →
    (∀ I', (∀ x c, ¬ (x = 29 ∨ x = 30) → I' x c = I x c) → K (some (.int (twv P f a b lo e (f 53) k sg m s p))) (sm_SH n, I', J)) →
    sm_Ok (d + k + 4) 146 0 [.ref 26, .int (nI e), .int (nI k), .int (if sg = true then 1 else 0), .int (nI m), .int (nI s), .int (nI p), .null, .null, .null] [] (sm_SH n, I, J) K
  | 0, sg, m, s, p, hk, hm, hs, hp, d, n, J, K, I, cF, cl, h53, hK => by
    have t10 : ¬ (10 : Int32) = 0 := by decide
    have ed : nI m / 10 = nI (m / 10) := pk_div (a := m) (d := 10) (by omega) (by decide) (by decide)
    have l1 : (if nI p < nI s then nI p else nI s) = nI (min s p) := nI_min (by omega) (by omega)
    have l2 : (if nI (min s p) < nI (m / 10) then nI (min s p) else nI (m / 10)) = nI (min (m / 10) (min s p)) := nI_min (by omega) (by omega)
    have z0 : ¬ (0 : Int32) < nI 0 := by decide
    rw [z146_0]
    simp only [z146_1, z146_4, z146_6, z146_8, z146_9, z146_11, z146_13, z146_16, z146_19, z146_20, z146_21, z146_22, z146_23, z146_24, z146_25, z146_26, z146_29, z146_30, z146_33, z146_34, z146_36, z146_38, z146_40, z146_43, z146_45, z146_46, z146_49, z146_50, z146_53, z146_54, z146_56, z146_58, z146_59, z146_62, z146_65, z146_68, z146_70, z146_71, z146_72, z146_73, z146_74, z146_75, z146_76, z146_78, z146_80, z146_82, z146_85, z146_86, z146_87, z146_89, z146_91, z146_93, z146_96, z146_97, z146_99, z146_101, z146_103, z146_106, z146_109, z146_111, z146_112, z146_113, z146_114, z146_115, z146_116, z146_117, z146_119, z146_121, z146_123, z146_124, z146_126, z146_128, z146_129, z146_132, z146_134, z146_135, z146_137, z146_139, z146_141, z146_144, sm_cti, sm_ctr, sm_ctn, sm_nbi, Option.toList_some, Option.toList_none, List.cons_append, List.nil_append, ne_eq, reduceCtorEq, not_false_eq_true, Nat.reduceLeDiff, z0, t10, ed, l1, l2, if_true, if_false, not_true_eq_false, not_false_eq_true, and_true, true_and, and_false, false_and, and_self, or_true, true_or, or_false, false_or, reduceIte, iff_self, Int32.add_zero, y_10, Classical.not_not]
    exact hK I (fun x c _ => rfl)
  | k + 1, sg, m, s, p, hk, hm, hs, hp, d, n, J, K, I, cF, cl, h53, hK => by
    have z0 : (0 : Int32) < nI (k + 1) := nI_lt (a := 0) (by omega) (by omega)
    have ek : nI (k + 1) - 1 = nI k := nI_pred k
    have hmt : mvt P f a b lo e m s (f 53) ≤ 99 := Nat.min_le_left _ _
    match sg, hK with
    | true, hK =>
      have hK' : ∀ I', (∀ x c, ¬ (x = 29 ∨ x = 30) → I' x c = I x c) → K (some (.int (if twv P f a b lo e (f 53) k false m s p < twv P f a b lo e (f 53) k false (mvt P f a b lo e m s (f 53)) s p - 3 then twv P f a b lo e (f 53) k false (mvt P f a b lo e m s (f 53)) s p - 3 else twv P f a b lo e (f 53) k false m s p))) (sm_SH n, I', J) := hK
      rw [show d + (k + 1) + 4 = d + k + 4 + 1 by omega, z146_0]
      simp only [z146_1, z146_4, z146_6, z146_8, z146_9, z146_11, z146_13, z146_16, z146_19, z146_20, z146_21, z146_22, z146_23, z146_24, z146_25, z146_26, z146_29, z146_30, z146_33, z146_34, z146_36, z146_38, z146_40, z146_43, z146_45, z146_46, z146_49, z146_50, z146_53, z146_54, z146_56, z146_58, z146_59, z146_62, z146_65, z146_68, z146_70, z146_71, z146_72, z146_73, z146_74, z146_75, z146_76, z146_78, z146_80, z146_82, z146_85, z146_86, z146_87, z146_89, z146_91, z146_93, z146_96, z146_97, z146_99, z146_101, z146_103, z146_106, z146_109, z146_111, z146_112, z146_113, z146_114, z146_115, z146_116, z146_117, z146_119, z146_121, z146_123, z146_124, z146_126, z146_128, z146_129, z146_132, z146_134, z146_135, z146_137, z146_139, z146_141, z146_144, sm_cti, sm_ctr, sm_ctn, sm_nbi, Option.toList_some, Option.toList_none, List.cons_append, List.nil_append, ne_eq, reduceCtorEq, not_false_eq_true, Nat.reduceLeDiff, rc26, z0, ek, if_true, if_false, not_true_eq_false, not_false_eq_true, and_true, true_and, and_false, false_and, and_self, or_true, true_or, or_false, false_or, reduceIte, iff_self, Int32.add_zero, y_10, Classical.not_not]
      refine c_tw hb he k false m s p (by omega) hm hs hp d n J _ I cF cl h53 (fun I1 w1 => ?_)
      have e40 : I1 40 3 = nI (f 53) := by rw [w1 _ _ (by omega), h53]
      have cF1 := cFo_f cF (I' := I1) (fun x c h1 h2 => w1 x c (by omega))
      have cl1 := cLw_f cl (I' := I1) (fun x c h1 h2 => w1 x c (by omega))
      simp only [z146_1, z146_4, z146_6, z146_8, z146_9, z146_11, z146_13, z146_16, z146_19, z146_20, z146_21, z146_22, z146_23, z146_24, z146_25, z146_26, z146_29, z146_30, z146_33, z146_34, z146_36, z146_38, z146_40, z146_43, z146_45, z146_46, z146_49, z146_50, z146_53, z146_54, z146_56, z146_58, z146_59, z146_62, z146_65, z146_68, z146_70, z146_71, z146_72, z146_73, z146_74, z146_75, z146_76, z146_78, z146_80, z146_82, z146_85, z146_86, z146_87, z146_89, z146_91, z146_93, z146_96, z146_97, z146_99, z146_101, z146_103, z146_106, z146_109, z146_111, z146_112, z146_113, z146_114, z146_115, z146_116, z146_117, z146_119, z146_121, z146_123, z146_124, z146_126, z146_128, z146_129, z146_132, z146_134, z146_135, z146_137, z146_139, z146_141, z146_144, sm_cti, sm_ctr, sm_ctn, sm_nbi, Option.toList_some, Option.toList_none, List.cons_append, List.nil_append, ne_eq, reduceCtorEq, not_false_eq_true, Nat.reduceLeDiff, kc26, kc40, rc34, rf26_2, rf26_3, e40, if_true, if_false, not_true_eq_false, not_false_eq_true, and_true, true_and, and_false, false_and, and_self, or_true, true_or, or_false, false_or, reduceIte, iff_self, Int32.add_zero, y_10, Classical.not_not]
      rw [show d + k + 4 = d + k + 1 + 3 by omega]
      refine c_movedTo hb cF1 cl1 he hm s (f 53) (d + k + 1) n J _ (fun I2 w2 => ?_)
      simp only [z146_1, z146_4, z146_6, z146_8, z146_9, z146_11, z146_13, z146_16, z146_19, z146_20, z146_21, z146_22, z146_23, z146_24, z146_25, z146_26, z146_29, z146_30, z146_33, z146_34, z146_36, z146_38, z146_40, z146_43, z146_45, z146_46, z146_49, z146_50, z146_53, z146_54, z146_56, z146_58, z146_59, z146_62, z146_65, z146_68, z146_70, z146_71, z146_72, z146_73, z146_74, z146_75, z146_76, z146_78, z146_80, z146_82, z146_85, z146_86, z146_87, z146_89, z146_91, z146_93, z146_96, z146_97, z146_99, z146_101, z146_103, z146_106, z146_109, z146_111, z146_112, z146_113, z146_114, z146_115, z146_116, z146_117, z146_119, z146_121, z146_123, z146_124, z146_126, z146_128, z146_129, z146_132, z146_134, z146_135, z146_137, z146_139, z146_141, z146_144, sm_cti, sm_ctr, sm_ctn, sm_nbi, Option.toList_some, Option.toList_none, List.cons_append, List.nil_append, ne_eq, reduceCtorEq, not_false_eq_true, Nat.reduceLeDiff, rc26, ek, if_true, if_false, not_true_eq_false, not_false_eq_true, and_true, true_and, and_false, false_and, and_self, or_true, true_or, or_false, false_or, reduceIte, iff_self, Int32.add_zero, y_10, Classical.not_not]
      rw [show d + k + 1 + 3 = d + k + 4 by omega]
      refine c_tw hb he k false _ s p (by omega) hmt hs hp d n J _ I2 (cFo_f cF1 (fun x c h1 h2 => w2 x c (by omega))) (cLw_f cl1 (fun x c h1 h2 => w2 x c (by omega))) (by rw [w2 _ _ (by omega), e40]) (fun I3 w3 => ?_)
      simp only [z146_1, z146_4, z146_6, z146_8, z146_9, z146_11, z146_13, z146_16, z146_19, z146_20, z146_21, z146_22, z146_23, z146_24, z146_25, z146_26, z146_29, z146_30, z146_33, z146_34, z146_36, z146_38, z146_40, z146_43, z146_45, z146_46, z146_49, z146_50, z146_53, z146_54, z146_56, z146_58, z146_59, z146_62, z146_65, z146_68, z146_70, z146_71, z146_72, z146_73, z146_74, z146_75, z146_76, z146_78, z146_80, z146_82, z146_85, z146_86, z146_87, z146_89, z146_91, z146_93, z146_96, z146_97, z146_99, z146_101, z146_103, z146_106, z146_109, z146_111, z146_112, z146_113, z146_114, z146_115, z146_116, z146_117, z146_119, z146_121, z146_123, z146_124, z146_126, z146_128, z146_129, z146_132, z146_134, z146_135, z146_137, z146_139, z146_141, z146_144, sm_cti, sm_ctr, sm_ctn, sm_nbi, Option.toList_some, Option.toList_none, List.cons_append, List.nil_append, ne_eq, reduceCtorEq, not_false_eq_true, Nat.reduceLeDiff, if_true, if_false, not_true_eq_false, not_false_eq_true, and_true, true_and, and_false, false_and, and_self, or_true, true_or, or_false, false_or, reduceIte, iff_self, Int32.add_zero, y_10, Classical.not_not]
      exact hK' I3 (fun x c hx => by rw [w3 x c hx, w2 x c hx, w1 x c hx])
    | false, hK =>
      have hK' : ∀ I', (∀ x c, ¬ (x = 29 ∨ x = 30) → I' x c = I x c) → K (some (.int (if twv P f a b lo e (f 53) k true m (s - min 10 (min s p)) (p - min 10 (min s p)) + nI (min 10 (min s p)) < twv P f a b lo e (f 53) k true m s p then twv P f a b lo e (f 53) k true m (s - min 10 (min s p)) (p - min 10 (min s p)) + nI (min 10 (min s p)) else twv P f a b lo e (f 53) k true m s p))) (sm_SH n, I', J) := hK
      have l1 : (if nI p < nI s then nI p else nI s) = nI (min s p) := nI_min (by omega) (by omega)
      have l2 : (if nI (min s p) < 10 then nI (min s p) else 10) = nI (min 10 (min s p)) := nI_min (a := 10) (by decide) (by omega)
      have s1 : nI s - nI (min 10 (min s p)) = nI (s - min 10 (min s p)) := nI_sub (by omega)
      have s2 : nI p - nI (min 10 (min s p)) = nI (p - min 10 (min s p)) := nI_sub (by omega)
      have ff : ¬ (false = true) := by decide
      rw [show d + (k + 1) + 4 = d + k + 4 + 1 by omega, z146_0]
      simp only [z146_1, z146_4, z146_6, z146_8, z146_9, z146_11, z146_13, z146_16, z146_19, z146_20, z146_21, z146_22, z146_23, z146_24, z146_25, z146_26, z146_29, z146_30, z146_33, z146_34, z146_36, z146_38, z146_40, z146_43, z146_45, z146_46, z146_49, z146_50, z146_53, z146_54, z146_56, z146_58, z146_59, z146_62, z146_65, z146_68, z146_70, z146_71, z146_72, z146_73, z146_74, z146_75, z146_76, z146_78, z146_80, z146_82, z146_85, z146_86, z146_87, z146_89, z146_91, z146_93, z146_96, z146_97, z146_99, z146_101, z146_103, z146_106, z146_109, z146_111, z146_112, z146_113, z146_114, z146_115, z146_116, z146_117, z146_119, z146_121, z146_123, z146_124, z146_126, z146_128, z146_129, z146_132, z146_134, z146_135, z146_137, z146_139, z146_141, z146_144, sm_cti, sm_ctr, sm_ctn, sm_nbi, Option.toList_some, Option.toList_none, List.cons_append, List.nil_append, ne_eq, reduceCtorEq, not_false_eq_true, Nat.reduceLeDiff, rc26, z0, ek, if_neg ff, if_true, if_false, not_true_eq_false, not_false_eq_true, and_true, true_and, and_false, false_and, and_self, or_true, true_or, or_false, false_or, reduceIte, iff_self, Int32.add_zero, y_10, Classical.not_not]
      have H1 := c_tw hb he k true m s p (by omega) hm hs hp d n J
      rw [if_pos rfl] at H1
      refine H1 _ I cF cl h53 (fun I1 w1 => ?_)
      have e40 : I1 40 3 = nI (f 53) := by rw [w1 _ _ (by omega), h53]
      simp only [z146_1, z146_4, z146_6, z146_8, z146_9, z146_11, z146_13, z146_16, z146_19, z146_20, z146_21, z146_22, z146_23, z146_24, z146_25, z146_26, z146_29, z146_30, z146_33, z146_34, z146_36, z146_38, z146_40, z146_43, z146_45, z146_46, z146_49, z146_50, z146_53, z146_54, z146_56, z146_58, z146_59, z146_62, z146_65, z146_68, z146_70, z146_71, z146_72, z146_73, z146_74, z146_75, z146_76, z146_78, z146_80, z146_82, z146_85, z146_86, z146_87, z146_89, z146_91, z146_93, z146_96, z146_97, z146_99, z146_101, z146_103, z146_106, z146_109, z146_111, z146_112, z146_113, z146_114, z146_115, z146_116, z146_117, z146_119, z146_121, z146_123, z146_124, z146_126, z146_128, z146_129, z146_132, z146_134, z146_135, z146_137, z146_139, z146_141, z146_144, sm_cti, sm_ctr, sm_ctn, sm_nbi, Option.toList_some, Option.toList_none, List.cons_append, List.nil_append, ne_eq, reduceCtorEq, not_false_eq_true, Nat.reduceLeDiff, rc26, ek, l1, l2, s1, s2, if_true, if_false, not_true_eq_false, not_false_eq_true, and_true, true_and, and_false, false_and, and_self, or_true, true_or, or_false, false_or, reduceIte, iff_self, Int32.add_zero, y_10, Classical.not_not]
      have H2 := c_tw hb he k true m (s - min 10 (min s p)) (p - min 10 (min s p)) (by omega) hm (by omega) (by omega) d n J
      rw [if_pos rfl] at H2
      refine H2 _ I1 (cFo_f cF (fun x c h1 h2 => w1 x c (by omega))) (cLw_f cl (fun x c h1 h2 => w1 x c (by omega))) e40 (fun I3 w3 => ?_)
      simp only [z146_1, z146_4, z146_6, z146_8, z146_9, z146_11, z146_13, z146_16, z146_19, z146_20, z146_21, z146_22, z146_23, z146_24, z146_25, z146_26, z146_29, z146_30, z146_33, z146_34, z146_36, z146_38, z146_40, z146_43, z146_45, z146_46, z146_49, z146_50, z146_53, z146_54, z146_56, z146_58, z146_59, z146_62, z146_65, z146_68, z146_70, z146_71, z146_72, z146_73, z146_74, z146_75, z146_76, z146_78, z146_80, z146_82, z146_85, z146_86, z146_87, z146_89, z146_91, z146_93, z146_96, z146_97, z146_99, z146_101, z146_103, z146_106, z146_109, z146_111, z146_112, z146_113, z146_114, z146_115, z146_116, z146_117, z146_119, z146_121, z146_123, z146_124, z146_126, z146_128, z146_129, z146_132, z146_134, z146_135, z146_137, z146_139, z146_141, z146_144, sm_cti, sm_ctr, sm_ctn, sm_nbi, Option.toList_some, Option.toList_none, List.cons_append, List.nil_append, ne_eq, reduceCtorEq, not_false_eq_true, Nat.reduceLeDiff, if_true, if_false, not_true_eq_false, not_false_eq_true, and_true, true_and, and_false, false_and, and_self, or_true, true_or, or_false, false_or, reduceIte, iff_self, Int32.add_zero, y_10, Classical.not_not]
      exact hK' I3 (fun x c hx => by rw [w3 x c hx, w1 x c hx])
theorem m_pl (hb : bdf P D f a b) {e : Nat} (he : e < D) {N : Nat} (hN : N ≤ 6) : ∀ (l k : Nat), k + l = N → ∀ (g : Nat → Nat), bdg g → ∀ (d n : Nat) (J : sm_J) (K : Option Value → sm_H → Prop) (I : sm_I), mFo P D f a b I → mLw lo I → mTa P D g I →
    (∀ I', (∀ x c, ¬ ((112 ≤ x ∧ x < 116) ∨ (x = 103 ∧ 14 ≤ c ∧ c ≤ 18)) → I' x c = I x c) → mTa P D g I' → K (some (.int (twv P f a b lo e (g 53) l (decide (k % 2 = 0)) (g (32 + a e)) (g (40 + e)) (g (24 + a e))))) (sm_SH n, I', J)) →
    sm_Ok (d + l + 48) 210 0 [.ref 103, .int (nI e), .int (nI k), .int (nI N), .null, .null, .null, .null] [] (sm_SH n, I, J) K
  | 0, k, hk, g, hg, d, n, J, K, I, mF, ml, mT, hK => by
    have hkN : k = N := by omega
    subst hkN
    obtain ⟨c1, c2, c3⟩ := hb.2.2.2 e he
    have h8 := hb.1
    have h12 := hb.2.1
    have g1 := hg (40 + e) (by omega) (by omega) (by omega)
    have g2 := hg (24 + a e) (by omega) (by omega) (by omega)
    have g3 := hg (32 + a e) (by omega) (by omega) (by omega)
    have t1 := top_le (40 + e)
    have t2 := top_le (24 + a e)
    have t3 := top_le (32 + a e)
    have t10 : ¬ (10 : Int32) = 0 := by decide
    have ed : nI (g (32 + a e)) / 10 = nI (g (32 + a e) / 10) := pk_div (d := 10) (by omega) (by decide) (by decide)
    have l1 : (if nI (g (40 + e)) < nI (g (24 + a e)) then nI (g (40 + e)) else nI (g (24 + a e))) = nI (min (g (40 + e)) (g (24 + a e))) := nI_least (by omega) (by omega)
    have l2 : (if nI (min (g (40 + e)) (g (24 + a e))) < nI (g (32 + a e) / 10) then nI (min (g (40 + e)) (g (24 + a e))) else nI (g (32 + a e) / 10)) = nI (min (g (32 + a e) / 10) (min (g (40 + e)) (g (24 + a e)))) := by rw [nI_least (by omega) (by omega), Nat.min_comm]
    rw [z210_0]
    simp only [z210_1, z210_4, z210_5, z210_6, z210_8, z210_9, z210_10, z210_13, z210_14, z210_17, z210_18, z210_19, z210_20, z210_23, z210_25, z210_26, z210_29, z210_30, z210_33, z210_35, z210_36, z210_38, z210_39, z210_42, z210_43, z210_44, z210_45, z210_46, z210_47, z210_48, z210_49, z210_52, z210_54, z210_55, z210_56, z210_57, z210_60, z210_61, z210_64, z210_66, z210_67, z210_69, z210_70, z210_73, z210_75, z210_77, z210_79, z210_80, z210_81, z210_84, z210_85, z210_88, z210_89, z210_90, z210_91, z210_92, z210_93, z210_94, z210_95, z210_98, z210_99, z210_100, z210_102, z210_103, z210_106, z210_108, z210_110, z210_111, z210_113, z210_115, z210_118, z210_120, z210_123, z210_125, z210_126, z210_127, z210_130, z210_131, z210_132, z210_133, z210_136, z210_138, z210_139, z210_142, z210_144, z210_147, z210_149, z210_150, z210_153, z210_154, z210_155, z210_156, z210_158, z210_159, z210_160, z210_161, z210_164, z210_166, z210_167, z210_168, z210_170, z210_171, z210_172, z210_173, z210_174, z210_175, z210_176, z210_177, z210_178, z210_181, z210_183, z210_184, z210_186, z210_187, z210_190, z210_191, z210_192, z210_193, z210_195, z210_196, z210_197, z210_198, z210_201, z210_203, z210_204, z210_205, z210_207, z210_208, z210_209, z210_211, z210_213, z210_216, z210_218, z210_221, z210_223, sm_cti, sm_ctr, sm_ctn, sm_nbi, Option.toList_some, Option.toList_none, List.cons_append, List.nil_append, ne_eq, reduceCtorEq, not_false_eq_true, Nat.reduceLeDiff, kc103, kc108, kc113, kc114, kc115, rf103_8, rf103_20, rf103_21, rf103_22, (mF.2.2.2 e he).1, mT.2.1 e he, (mT.1 _ c1).1, (mT.1 _ c1).2, m_least, t10, ed, l1, l2, y_inN (show e < 12 by omega) (by decide), nI_clamp (show e < 2 ^ 31 by omega), y_inN (show a e < 8 by omega) (by decide), nI_clamp (show a e < 2 ^ 31 by omega), if_true, if_false, not_true_eq_false, not_false_eq_true, and_true, true_and, and_false, false_and, and_self, or_true, true_or, or_false, false_or, reduceIte, iff_self, Int32.add_zero, y_10, Classical.not_not]
    exact hK I (fun x c _ => rfl) mT
  | l + 1, k, hk, g, hg, d, n, J, K, I, mF, ml, mT, hK => by
    obtain ⟨c1, c2, c3⟩ := hb.2.2.2 e he
    have h8 := hb.1
    have h12 := hb.2.1
    have g1 := hg (40 + e) (by omega) (by omega) (by omega)
    have g2 := hg (24 + a e) (by omega) (by omega) (by omega)
    have g3 := hg (32 + a e) (by omega) (by omega) (by omega)
    have t1 := top_le (40 + e)
    have t2 := top_le (24 + a e)
    have t3 := top_m (k := 32 + a e) (by omega)
    have t2' := top_p (k := 24 + a e) (by omega)
    have t2z : ¬ (2 : Int32) = 0 := by decide
    have nkN : ¬ nI k = nI N := fun z => by have := (nI_eq (by omega) (by omega)).mp z; omega
    have er : nI k - nI k / 2 * 2 = nI (k % 2) := pk_rem (a := k) (d := 2) (by omega) (by decide) (by decide)
    rw [show d + (l + 1) + 48 = d + l + 48 + 1 by omega, z210_0]
    simp only [z210_1, z210_4, z210_5, z210_6, z210_8, z210_9, z210_10, z210_13, z210_14, z210_17, z210_18, z210_19, z210_20, z210_23, z210_25, z210_26, z210_29, z210_30, z210_33, z210_35, z210_36, z210_38, z210_39, z210_42, z210_43, z210_44, z210_45, z210_46, z210_47, z210_48, z210_49, z210_52, z210_54, z210_55, z210_56, z210_57, z210_60, z210_61, z210_64, z210_66, z210_67, z210_69, z210_70, z210_73, z210_75, z210_77, z210_79, z210_80, z210_81, z210_84, z210_85, z210_88, z210_89, z210_90, z210_91, z210_92, z210_93, z210_94, z210_95, z210_98, z210_99, z210_100, z210_102, z210_103, z210_106, z210_108, z210_110, z210_111, z210_113, z210_115, z210_118, z210_120, z210_123, z210_125, z210_126, z210_127, z210_130, z210_131, z210_132, z210_133, z210_136, z210_138, z210_139, z210_142, z210_144, z210_147, z210_149, z210_150, z210_153, z210_154, z210_155, z210_156, z210_158, z210_159, z210_160, z210_161, z210_164, z210_166, z210_167, z210_168, z210_170, z210_171, z210_172, z210_173, z210_174, z210_175, z210_176, z210_177, z210_178, z210_181, z210_183, z210_184, z210_186, z210_187, z210_190, z210_191, z210_192, z210_193, z210_195, z210_196, z210_197, z210_198, z210_201, z210_203, z210_204, z210_205, z210_207, z210_208, z210_209, z210_211, z210_213, z210_216, z210_218, z210_221, z210_223, sm_cti, sm_ctr, sm_ctn, sm_nbi, Option.toList_some, Option.toList_none, List.cons_append, List.nil_append, ne_eq, reduceCtorEq, not_false_eq_true, Nat.reduceLeDiff, kc103, kc108, rc103, rf103_8, (mF.2.2.2 e he).1, nkN, nI_1, y_inN (show e < 12 by omega) (by decide), nI_clamp (show e < 2 ^ 31 by omega), if_true, if_false, not_true_eq_false, not_false_eq_true, and_true, true_and, and_false, false_and, and_self, or_true, true_or, or_false, false_or, reduceIte, iff_self, Int32.add_zero, y_10, Classical.not_not]
    refine m_pl hb he hN l (k + 1) (by omega) g hg d n J _ I mF ml mT (fun I1 w1 mT1 => ?_)
    have mF1 := mFo_f mF (I' := I1) (fun x c hx => w1 x c (by omega))
    have ml1 := mLw_f ml (I' := I1) (fun x c hx => w1 x c (by omega))
    by_cases hpar : k % 2 = 0
    · have e0 : nI (k % 2) = 0 := by rw [hpar]; rfl
      have hs : decide ((k + 1) % 2 = 0) = false := decide_eq_false (by omega)
      rw [show decide (k % 2 = 0) = true from decide_eq_true hpar] at hK
      rw [hs]
      have hK' : ∀ I', (∀ x c, ¬ ((112 ≤ x ∧ x < 116) ∨ (x = 103 ∧ 14 ≤ c ∧ c ≤ 18)) → I' x c = I x c) → mTa P D g I' → K (some (.int (if twv P f a b lo e (g 53) l false (g (32 + a e)) (g (40 + e)) (g (24 + a e)) < twv P f a b lo e (g 53) l false (mvt P f a b lo e (g (32 + a e)) (g (40 + e)) (g 53)) (g (40 + e)) (g (24 + a e)) - 3 then twv P f a b lo e (g 53) l false (mvt P f a b lo e (g (32 + a e)) (g (40 + e)) (g 53)) (g (40 + e)) (g (24 + a e)) - 3 else twv P f a b lo e (g 53) l false (g (32 + a e)) (g (40 + e)) (g (24 + a e))))) (sm_SH n, I', J) := hK
      have hmb := mvb_le P f a b lo e (g (32 + a e)) (g (40 + e)) (g 53)
      simp only [z210_1, z210_4, z210_5, z210_6, z210_8, z210_9, z210_10, z210_13, z210_14, z210_17, z210_18, z210_19, z210_20, z210_23, z210_25, z210_26, z210_29, z210_30, z210_33, z210_35, z210_36, z210_38, z210_39, z210_42, z210_43, z210_44, z210_45, z210_46, z210_47, z210_48, z210_49, z210_52, z210_54, z210_55, z210_56, z210_57, z210_60, z210_61, z210_64, z210_66, z210_67, z210_69, z210_70, z210_73, z210_75, z210_77, z210_79, z210_80, z210_81, z210_84, z210_85, z210_88, z210_89, z210_90, z210_91, z210_92, z210_93, z210_94, z210_95, z210_98, z210_99, z210_100, z210_102, z210_103, z210_106, z210_108, z210_110, z210_111, z210_113, z210_115, z210_118, z210_120, z210_123, z210_125, z210_126, z210_127, z210_130, z210_131, z210_132, z210_133, z210_136, z210_138, z210_139, z210_142, z210_144, z210_147, z210_149, z210_150, z210_153, z210_154, z210_155, z210_156, z210_158, z210_159, z210_160, z210_161, z210_164, z210_166, z210_167, z210_168, z210_170, z210_171, z210_172, z210_173, z210_174, z210_175, z210_176, z210_177, z210_178, z210_181, z210_183, z210_184, z210_186, z210_187, z210_190, z210_191, z210_192, z210_193, z210_195, z210_196, z210_197, z210_198, z210_201, z210_203, z210_204, z210_205, z210_207, z210_208, z210_209, z210_211, z210_213, z210_216, z210_218, z210_221, z210_223, sm_cti, sm_ctr, sm_ctn, sm_nbi, Option.toList_some, Option.toList_none, List.cons_append, List.nil_append, ne_eq, reduceCtorEq, not_false_eq_true, Nat.reduceLeDiff, kc103, kc114, rc103, rf103_21, t2z, er, e0, (mT1.1 _ c1).2, y_inN (show a e < 8 by omega) (by decide), nI_clamp (show a e < 2 ^ 31 by omega), if_true, if_false, not_true_eq_false, not_false_eq_true, and_true, true_and, and_false, false_and, and_self, or_true, true_or, or_false, false_or, reduceIte, iff_self, Int32.add_zero, y_10, Classical.not_not]
      rw [show d + l + 48 = d + l + 1 + 47 by omega]
      refine m_movesBy hb mF1 ml1 mT1 he (d + l + 1) n J _ (fun I2 w2 => ?_)
      have eM : (if (99 : Int32) < nI (g (32 + a e) + mvb P f a b lo e (g (32 + a e)) (g (40 + e)) (g 53)) then (99 : Int32) else nI (g (32 + a e) + mvb P f a b lo e (g (32 + a e)) (g (40 + e)) (g 53))) = nI (mvt P f a b lo e (g (32 + a e)) (g (40 + e)) (g 53)) := nI_least (a := 99) (by decide) (by omega)
      have hm : mvt P f a b lo e (g (32 + a e)) (g (40 + e)) (g 53) ≤ 99 := Nat.min_le_left _ _
      have mT2 : mTa P D g I2 := mTa_f mT1 (fun x c hx => w2 x c (by omega))
      generalize hMM : mvt P f a b lo e (g (32 + a e)) (g (40 + e)) (g 53) = M at *
      have g' : bdg (fv g (32 + a e) M) := fun j j1 j2 j3 => by
        unfold fv
        by_cases hj : j = 32 + a e
        · rw [if_pos hj, hj, t3]
          exact hm
        · rw [if_neg hj]
          exact hg j j1 j2 j3
      have vs : ∀ j, j ≠ 32 + a e → fv g (32 + a e) M j = g j := fun j hj => by unfold fv; rw [if_neg hj]
      have vm : fv g (32 + a e) M (32 + a e) = M := by unfold fv; rw [if_pos rfl]
      have mT3 : mTa P D (fv g (32 + a e) M) (sm_uI I2 114 (a e) (nI M)) := by
        refine ⟨fun p hp => ⟨by rw [uI_q _ _ (by omega), (mT2.1 p hp).1, vs _ (by omega)], ?_⟩, fun o ho => by rw [uI_q _ _ (by omega), mT2.2.1 o ho, vs _ (by omega)], by rw [uI_q _ _ (by omega), mT2.2.2, vs _ (by omega)]⟩
        by_cases hpe : p = a e
        · rw [hpe, uI_s, vm]
        · rw [uI_o _ _ (by omega), (mT2.1 p hp).2, vs _ (by omega)]
      simp only [z210_1, z210_4, z210_5, z210_6, z210_8, z210_9, z210_10, z210_13, z210_14, z210_17, z210_18, z210_19, z210_20, z210_23, z210_25, z210_26, z210_29, z210_30, z210_33, z210_35, z210_36, z210_38, z210_39, z210_42, z210_43, z210_44, z210_45, z210_46, z210_47, z210_48, z210_49, z210_52, z210_54, z210_55, z210_56, z210_57, z210_60, z210_61, z210_64, z210_66, z210_67, z210_69, z210_70, z210_73, z210_75, z210_77, z210_79, z210_80, z210_81, z210_84, z210_85, z210_88, z210_89, z210_90, z210_91, z210_92, z210_93, z210_94, z210_95, z210_98, z210_99, z210_100, z210_102, z210_103, z210_106, z210_108, z210_110, z210_111, z210_113, z210_115, z210_118, z210_120, z210_123, z210_125, z210_126, z210_127, z210_130, z210_131, z210_132, z210_133, z210_136, z210_138, z210_139, z210_142, z210_144, z210_147, z210_149, z210_150, z210_153, z210_154, z210_155, z210_156, z210_158, z210_159, z210_160, z210_161, z210_164, z210_166, z210_167, z210_168, z210_170, z210_171, z210_172, z210_173, z210_174, z210_175, z210_176, z210_177, z210_178, z210_181, z210_183, z210_184, z210_186, z210_187, z210_190, z210_191, z210_192, z210_193, z210_195, z210_196, z210_197, z210_198, z210_201, z210_203, z210_204, z210_205, z210_207, z210_208, z210_209, z210_211, z210_213, z210_216, z210_218, z210_221, z210_223, sm_cti, sm_ctr, sm_ctn, sm_nbi, Option.toList_some, Option.toList_none, List.cons_append, List.nil_append, ne_eq, reduceCtorEq, not_false_eq_true, Nat.reduceLeDiff, kc103, kc114, rc103, rf103_21, m_least, nI_add, nI_1, eM, y_inN (show a e < 8 by omega) (by decide), nI_clamp (show a e < 2 ^ 31 by omega), if_true, if_false, not_true_eq_false, not_false_eq_true, and_true, true_and, and_false, false_and, and_self, or_true, true_or, or_false, false_or, reduceIte, iff_self, Int32.add_zero, y_10, Classical.not_not]
      rw [show d + l + 1 + 47 = d + l + 48 by omega]
      refine m_pl hb he hN l (k + 1) (by omega) _ g' d n J _ _ (mFo_f mF1 (fun x c hx => by rw [uI_q _ _ (by omega), w2 x c (by omega)])) (mLw_f ml1 (fun x c hx => by rw [uI_q _ _ (by omega), w2 x c (by omega)])) mT3 (fun I4 w4 mT4 => ?_)
      rw [hs, vs 53 (by omega), vm, vs (40 + e) (by omega), vs (24 + a e) (by omega)]
      have fin := hK' (sm_uI I4 114 (a e) (nI (g (32 + a e)))) (fun x c hx => by rw [uI_q _ _ (by omega), w4 x c (by omega), uI_q _ _ (by omega), w2 x c (by omega), w1 x c (by omega)]) (by
        refine ⟨fun p hp => ⟨by rw [uI_q _ _ (by omega), (mT4.1 p hp).1, vs _ (by omega)], ?_⟩, fun o ho => by rw [uI_q _ _ (by omega), mT4.2.1 o ho, vs _ (by omega)], by rw [uI_q _ _ (by omega), mT4.2.2, vs _ (by omega)]⟩
        by_cases hpe : p = a e
        · rw [hpe, uI_s]
        · rw [uI_o _ _ (by omega), (mT4.1 p hp).2, vs _ (by omega)])
      simp only [z210_1, z210_4, z210_5, z210_6, z210_8, z210_9, z210_10, z210_13, z210_14, z210_17, z210_18, z210_19, z210_20, z210_23, z210_25, z210_26, z210_29, z210_30, z210_33, z210_35, z210_36, z210_38, z210_39, z210_42, z210_43, z210_44, z210_45, z210_46, z210_47, z210_48, z210_49, z210_52, z210_54, z210_55, z210_56, z210_57, z210_60, z210_61, z210_64, z210_66, z210_67, z210_69, z210_70, z210_73, z210_75, z210_77, z210_79, z210_80, z210_81, z210_84, z210_85, z210_88, z210_89, z210_90, z210_91, z210_92, z210_93, z210_94, z210_95, z210_98, z210_99, z210_100, z210_102, z210_103, z210_106, z210_108, z210_110, z210_111, z210_113, z210_115, z210_118, z210_120, z210_123, z210_125, z210_126, z210_127, z210_130, z210_131, z210_132, z210_133, z210_136, z210_138, z210_139, z210_142, z210_144, z210_147, z210_149, z210_150, z210_153, z210_154, z210_155, z210_156, z210_158, z210_159, z210_160, z210_161, z210_164, z210_166, z210_167, z210_168, z210_170, z210_171, z210_172, z210_173, z210_174, z210_175, z210_176, z210_177, z210_178, z210_181, z210_183, z210_184, z210_186, z210_187, z210_190, z210_191, z210_192, z210_193, z210_195, z210_196, z210_197, z210_198, z210_201, z210_203, z210_204, z210_205, z210_207, z210_208, z210_209, z210_211, z210_213, z210_216, z210_218, z210_221, z210_223, sm_cti, sm_ctr, sm_ctn, sm_nbi, Option.toList_some, Option.toList_none, List.cons_append, List.nil_append, ne_eq, reduceCtorEq, not_false_eq_true, Nat.reduceLeDiff, kc103, kc114, rf103_21, y_inN (show a e < 8 by omega) (by decide), nI_clamp (show a e < 2 ^ 31 by omega), y_lt, if_true, if_false, not_true_eq_false, not_false_eq_true, and_true, true_and, and_false, false_and, and_self, or_true, true_or, or_false, false_or, reduceIte, iff_self, Int32.add_zero, y_10, Classical.not_not] at fin ⊢
      generalize twv P f a b lo e (g 53) l false (g (32 + a e)) (g (40 + e)) (g (24 + a e)) = A1 at fin ⊢
      generalize twv P f a b lo e (g 53) l false M (g (40 + e)) (g (24 + a e)) - 3 = A2 at fin ⊢
      by_cases hA : A2 ≤ A1
      · simp only [hA, if_true, if_false, not_true_eq_false, not_false_eq_true, and_true, true_and, and_false, false_and, and_self, or_true, true_or, or_false, false_or, reduceIte, iff_self, Int32.add_zero, y_10, Classical.not_not] at fin ⊢
        exact fin
      · simp only [hA, if_true, if_false, not_true_eq_false, not_false_eq_true, and_true, true_and, and_false, false_and, and_self, or_true, true_or, or_false, false_or, reduceIte, iff_self, Int32.add_zero, y_10, Classical.not_not] at fin ⊢
        exact fin
    · have e0 : ¬ nI (k % 2) = 0 := nI_ne0 (by omega) (by omega)
      have hs : decide ((k + 1) % 2 = 0) = true := decide_eq_true (by omega)
      rw [show decide (k % 2 = 0) = false from decide_eq_false hpar] at hK
      rw [hs]
      have l1 : (if nI (g (40 + e)) < nI (g (24 + a e)) then nI (g (40 + e)) else nI (g (24 + a e))) = nI (min (g (40 + e)) (g (24 + a e))) := nI_least (by omega) (by omega)
      have l2 : (if nI (min (g (40 + e)) (g (24 + a e))) < 10 then nI (min (g (40 + e)) (g (24 + a e))) else 10) = nI (min 10 (min (g (40 + e)) (g (24 + a e)))) := nI_min (a := 10) (by decide) (by omega)
      have hK' : ∀ I', (∀ x c, ¬ ((112 ≤ x ∧ x < 116) ∨ (x = 103 ∧ 14 ≤ c ∧ c ≤ 18)) → I' x c = I x c) → mTa P D g I' → K (some (.int (if twv P f a b lo e (g 53) l true (g (32 + a e)) (g (40 + e) - min 10 (min (g (40 + e)) (g (24 + a e)))) (g (24 + a e) - min 10 (min (g (40 + e)) (g (24 + a e)))) + nI (min 10 (min (g (40 + e)) (g (24 + a e)))) < twv P f a b lo e (g 53) l true (g (32 + a e)) (g (40 + e)) (g (24 + a e)) then twv P f a b lo e (g 53) l true (g (32 + a e)) (g (40 + e) - min 10 (min (g (40 + e)) (g (24 + a e)))) (g (24 + a e) - min 10 (min (g (40 + e)) (g (24 + a e)))) + nI (min 10 (min (g (40 + e)) (g (24 + a e)))) else twv P f a b lo e (g 53) l true (g (32 + a e)) (g (40 + e)) (g (24 + a e))))) (sm_SH n, I', J) := hK
      have hY1 : min 10 (min (g (40 + e)) (g (24 + a e))) ≤ g (40 + e) := by omega
      have hY2 : min 10 (min (g (40 + e)) (g (24 + a e))) ≤ g (24 + a e) := by omega
      generalize hYY : min 10 (min (g (40 + e)) (g (24 + a e))) = Y at *
      have s1 : nI (g (40 + e)) - nI Y = nI (g (40 + e) - Y) := nI_sub hY1
      have s2 : nI (g (24 + a e)) - nI Y = nI (g (24 + a e) - Y) := nI_sub hY2
      have j1 : sm_uI I1 115 e (nI (g (40 + e) - Y)) 113 (a e) = nI (g (24 + a e)) := by rw [uI_q _ _ (by omega), (mT1.1 _ c1).1]
      have vs : ∀ j, j ≠ 40 + e → j ≠ 24 + a e → fv (fv g (40 + e) (g (40 + e) - Y)) (24 + a e) (g (24 + a e) - Y) j = g j := fun j hj1 hj2 => by unfold fv; rw [if_neg hj2, if_neg hj1]
      have v1 : fv (fv g (40 + e) (g (40 + e) - Y)) (24 + a e) (g (24 + a e) - Y) (40 + e) = g (40 + e) - Y := by unfold fv; rw [if_neg (by omega), if_pos rfl]
      have v2 : fv (fv g (40 + e) (g (40 + e) - Y)) (24 + a e) (g (24 + a e) - Y) (24 + a e) = g (24 + a e) - Y := by unfold fv; rw [if_pos rfl]
      generalize hGG : fv (fv g (40 + e) (g (40 + e) - Y)) (24 + a e) (g (24 + a e) - Y) = G at *
      have g' : bdg G := fun j jj1 jj2 jj3 => by
        by_cases hj : j = 40 + e
        · rw [hj, v1]
          omega
        · by_cases hj2 : j = 24 + a e
          · rw [hj2, v2]
            omega
          · rw [vs j hj hj2]
            exact hg j jj1 jj2 jj3
      have mT3 : mTa P D G (sm_uI (sm_uI I1 115 e (nI (g (40 + e) - Y))) 113 (a e) (nI (g (24 + a e) - Y))) := by
        refine ⟨fun p hp => ⟨?_, by rw [uI_q _ _ (by omega), uI_q _ _ (by omega), (mT1.1 p hp).2, vs _ (by omega) (by omega)]⟩, fun o ho => ?_, by rw [uI_q _ _ (by omega), uI_q _ _ (by omega), mT1.2.2, vs _ (by omega) (by omega)]⟩
        · by_cases hpe : p = a e
          · rw [hpe, uI_s, v2]
          · rw [uI_o _ _ (by omega), uI_q _ _ (by omega), (mT1.1 p hp).1, vs _ (by omega) (by omega)]
        · rw [uI_q _ _ (by omega)]
          by_cases hoe : o = e
          · rw [hoe, uI_s, v1]
          · rw [uI_o _ _ (by omega), mT1.2.1 o ho, vs _ (by omega) (by omega)]
      simp only [z210_1, z210_4, z210_5, z210_6, z210_8, z210_9, z210_10, z210_13, z210_14, z210_17, z210_18, z210_19, z210_20, z210_23, z210_25, z210_26, z210_29, z210_30, z210_33, z210_35, z210_36, z210_38, z210_39, z210_42, z210_43, z210_44, z210_45, z210_46, z210_47, z210_48, z210_49, z210_52, z210_54, z210_55, z210_56, z210_57, z210_60, z210_61, z210_64, z210_66, z210_67, z210_69, z210_70, z210_73, z210_75, z210_77, z210_79, z210_80, z210_81, z210_84, z210_85, z210_88, z210_89, z210_90, z210_91, z210_92, z210_93, z210_94, z210_95, z210_98, z210_99, z210_100, z210_102, z210_103, z210_106, z210_108, z210_110, z210_111, z210_113, z210_115, z210_118, z210_120, z210_123, z210_125, z210_126, z210_127, z210_130, z210_131, z210_132, z210_133, z210_136, z210_138, z210_139, z210_142, z210_144, z210_147, z210_149, z210_150, z210_153, z210_154, z210_155, z210_156, z210_158, z210_159, z210_160, z210_161, z210_164, z210_166, z210_167, z210_168, z210_170, z210_171, z210_172, z210_173, z210_174, z210_175, z210_176, z210_177, z210_178, z210_181, z210_183, z210_184, z210_186, z210_187, z210_190, z210_191, z210_192, z210_193, z210_195, z210_196, z210_197, z210_198, z210_201, z210_203, z210_204, z210_205, z210_207, z210_208, z210_209, z210_211, z210_213, z210_216, z210_218, z210_221, z210_223, sm_cti, sm_ctr, sm_ctn, sm_nbi, Option.toList_some, Option.toList_none, List.cons_append, List.nil_append, ne_eq, reduceCtorEq, not_false_eq_true, Nat.reduceLeDiff, kc103, kc113, kc115, rc103, rf103_20, rf103_22, t2z, er, e0, mT1.2.1 e he, (mT1.1 _ c1).1, m_least, l1, l2, s1, j1, s2, nI_1, y_inN (show e < 12 by omega) (by decide), nI_clamp (show e < 2 ^ 31 by omega), y_inN (show a e < 8 by omega) (by decide), nI_clamp (show a e < 2 ^ 31 by omega), if_true, if_false, not_true_eq_false, not_false_eq_true, and_true, true_and, and_false, false_and, and_self, or_true, true_or, or_false, false_or, reduceIte, iff_self, Int32.add_zero, y_10, Classical.not_not]
      refine m_pl hb he hN l (k + 1) (by omega) _ g' d n J _ _ (mFo_f mF1 (fun x c hx => by rw [uI_q _ _ (by omega), uI_q _ _ (by omega)])) (mLw_f ml1 (fun x c hx => by rw [uI_q _ _ (by omega), uI_q _ _ (by omega)])) mT3 (fun I4 w4 mT4 => ?_)
      rw [hs, vs 53 (by omega) (by omega), vs (32 + a e) (by omega) (by omega), v1, v2]
      have q1 : I4 115 e + nI Y = nI (g (40 + e)) := by
        rw [mT4.2.1 e he, v1, nI_add]
        congr 1
        omega
      have q2 : sm_uI I4 115 e (nI (g (40 + e))) 113 (a e) + nI Y = nI (g (24 + a e)) := by
        rw [uI_q _ _ (by omega), (mT4.1 _ c1).1, v2, nI_add]
        congr 1
        omega
      have fin := hK' (sm_uI (sm_uI I4 115 e (nI (g (40 + e)))) 113 (a e) (nI (g (24 + a e)))) (fun x c hx => by rw [uI_q _ _ (by omega), uI_q _ _ (by omega), w4 x c (by omega), uI_q _ _ (by omega), uI_q _ _ (by omega), w1 x c (by omega)]) (by
        refine ⟨fun p hp => ⟨?_, by rw [uI_q _ _ (by omega), uI_q _ _ (by omega), (mT4.1 p hp).2, vs _ (by omega) (by omega)]⟩, fun o ho => ?_, by rw [uI_q _ _ (by omega), uI_q _ _ (by omega), mT4.2.2, vs _ (by omega) (by omega)]⟩
        · by_cases hpe : p = a e
          · rw [hpe, uI_s]
          · rw [uI_o _ _ (by omega), uI_q _ _ (by omega), (mT4.1 p hp).1, vs _ (by omega) (by omega)]
        · rw [uI_q _ _ (by omega)]
          by_cases hoe : o = e
          · rw [hoe, uI_s]
          · rw [uI_o _ _ (by omega), mT4.2.1 o ho, vs _ (by omega) (by omega)])
      simp only [z210_1, z210_4, z210_5, z210_6, z210_8, z210_9, z210_10, z210_13, z210_14, z210_17, z210_18, z210_19, z210_20, z210_23, z210_25, z210_26, z210_29, z210_30, z210_33, z210_35, z210_36, z210_38, z210_39, z210_42, z210_43, z210_44, z210_45, z210_46, z210_47, z210_48, z210_49, z210_52, z210_54, z210_55, z210_56, z210_57, z210_60, z210_61, z210_64, z210_66, z210_67, z210_69, z210_70, z210_73, z210_75, z210_77, z210_79, z210_80, z210_81, z210_84, z210_85, z210_88, z210_89, z210_90, z210_91, z210_92, z210_93, z210_94, z210_95, z210_98, z210_99, z210_100, z210_102, z210_103, z210_106, z210_108, z210_110, z210_111, z210_113, z210_115, z210_118, z210_120, z210_123, z210_125, z210_126, z210_127, z210_130, z210_131, z210_132, z210_133, z210_136, z210_138, z210_139, z210_142, z210_144, z210_147, z210_149, z210_150, z210_153, z210_154, z210_155, z210_156, z210_158, z210_159, z210_160, z210_161, z210_164, z210_166, z210_167, z210_168, z210_170, z210_171, z210_172, z210_173, z210_174, z210_175, z210_176, z210_177, z210_178, z210_181, z210_183, z210_184, z210_186, z210_187, z210_190, z210_191, z210_192, z210_193, z210_195, z210_196, z210_197, z210_198, z210_201, z210_203, z210_204, z210_205, z210_207, z210_208, z210_209, z210_211, z210_213, z210_216, z210_218, z210_221, z210_223, sm_cti, sm_ctr, sm_ctn, sm_nbi, Option.toList_some, Option.toList_none, List.cons_append, List.nil_append, ne_eq, reduceCtorEq, not_false_eq_true, Nat.reduceLeDiff, kc103, kc113, kc115, rf103_20, rf103_22, q1, q2, y_inN (show e < 12 by omega) (by decide), nI_clamp (show e < 2 ^ 31 by omega), y_inN (show a e < 8 by omega) (by decide), nI_clamp (show a e < 2 ^ 31 by omega), y_lt, if_true, if_false, not_true_eq_false, not_false_eq_true, and_true, true_and, and_false, false_and, and_self, or_true, true_or, or_false, false_or, reduceIte, iff_self, Int32.add_zero, y_10, Classical.not_not] at fin ⊢
      generalize twv P f a b lo e (g 53) l true (g (32 + a e)) (g (40 + e)) (g (24 + a e)) = A1 at fin ⊢
      generalize twv P f a b lo e (g 53) l true (g (32 + a e)) (g (40 + e) - Y) (g (24 + a e) - Y) + nI Y = A2 at fin ⊢
      by_cases hA : A1 ≤ A2
      · simp only [hA, if_true, if_false, not_true_eq_false, not_false_eq_true, and_true, true_and, and_false, false_and, and_self, or_true, true_or, or_false, false_or, reduceIte, iff_self, Int32.add_zero, y_10, Classical.not_not] at fin ⊢
        exact fin
      · simp only [hA, if_true, if_false, not_true_eq_false, not_false_eq_true, and_true, true_and, and_false, false_and, and_self, or_true, true_or, or_false, false_or, reduceIte, iff_self, Int32.add_zero, y_10, Classical.not_not] at fin ⊢
        exact fin
end
