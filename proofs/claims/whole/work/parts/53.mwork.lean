/-! how the reference works a law out -/
section
variable {t : Nat → Nat} {N : Nat}
def rep (gn gs : Int32) (o : Option Int32) : Prop := (o = none ∧ gn = 0 ∧ gs = 0) ∨ (gn = 1 ∧ o = some gs)
theorem pi_ok {a w : Nat} (h : (pe t N a).2.1 = true) : (pi' t N a w).1 = (pe t N a).1 ∧ (pi' t N a w).2.1 = true := by
  unfold pi'
  rw [if_neg (fun z => by rw [h] at z; cases z.1)]
  exact ⟨rfl, h⟩
theorem m_wlp {I : sm_I} (hT : mtp t N I) (hO : I 103 18 = nI 0) (fr en : Int32) (d n : Nat) (J : sm_J) (K : Option Value → sm_H → Prop) : ∀ (k a : Nat) (c : List Int32) (acc : pG → Option Int32) (I1 : sm_I) (gn gs : Int32) (x6 x7 : Value), a ≤ N → N - (pi' t N a c.length).1 ≤ k → mpo a false I I1 → rep gn gs (acc (I 112)) →
    (∀ (I' : sm_I) (gn gs : Int32) (x6 x7 : Value), mpo (px t N k ((pi' t N a c.length).1, (pi' t N a c.length).2.1, c ++ (pi' t N a c.length).2.2.1, fun g => (acc g).or ((pi' t N a c.length).2.2.2 g))).1 (px t N k ((pi' t N a c.length).1, (pi' t N a c.length).2.1, c ++ (pi' t N a c.length).2.2.1, fun g => (acc g).or ((pi' t N a c.length).2.2.2 g))).2.1 I I' → ((px t N k ((pi' t N a c.length).1, (pi' t N a c.length).2.1, c ++ (pi' t N a c.length).2.2.1, fun g => (acc g).or ((pi' t N a c.length).2.2.2 g))).2.1 = false → rep gn gs ((px t N k ((pi' t N a c.length).1, (pi' t N a c.length).2.1, c ++ (pi' t N a c.length).2.2.1, fun g => (acc g).or ((pi' t N a c.length).2.2.2 g))).2.2.2 (I 112))) → sm_Ok (d + 46) 177 107 [.ref 103, .int fr, .int en, .int gn, .int gs, .int 0, x6, x7] [] (sm_SH n, I', J) K) →
    sm_Ok (d + 46) 177 33 [.ref 103, .int fr, .int en, .int gn, .int gs, .int 1, x6, x7] [] (sm_SH n, I1, J) K
  | k, a, c, acc, I1, gn, gs, x6, x7, ha, hk, hm, hr, hK => by
    have hNN := hT.1
    have ey2 : ¬ (0 : Int32) ≤ -1 := by decide
    obtain ⟨p1, p2, p3⟩ := pi_gp t N a c.length ha
    obtain ⟨u1, u2⟩ := hm.2.2.1 rfl
    have tp1 := mpo_tp hm hT
    obtain ⟨g1, g2, g3⟩ := pe_gp t N a ha
    -- behind a line
    have tail : ∀ (I3 : sm_I) (gn gs : Int32) (x6 x7 : Int32), mpo (pi' t N a c.length).1 (pi' t N a c.length).2.1 I I3 → ((pi' t N a c.length).2.1 = false → rep gn gs ((acc (I 112)).or ((pi' t N a c.length).2.2.2 (I 112)))) → sm_Ok (d + 46) 177 96 [.ref 103, .int fr, .int en, .int gn, .int gs, .int 1, .int x6, .int x7] [] (sm_SH n, I3, J) K := by
      intro I3 gn gs x6 x7 m3 h3
      have tp3 := mpo_tp m3 hT
      by_cases hc : (pi' t N a c.length).2.1 = false ∧ (pi' t N a c.length).1 < N ∧ t (pi' t N a c.length).1 = 59
      · match k, hk, hK with
        | 0, hk, hK => exact absurd hc.2.1 (by omega)
        | k + 1, hk, hK =>
          have hp : px t N (k + 1) ((pi' t N a c.length).1, (pi' t N a c.length).2.1, c ++ (pi' t N a c.length).2.2.1, fun g => (acc g).or ((pi' t N a c.length).2.2.2 g)) = px t N k ((pi' t N ((pi' t N a c.length).1 + 1) (c ++ (pi' t N a c.length).2.2.1).length).1, (pi' t N ((pi' t N a c.length).1 + 1) (c ++ (pi' t N a c.length).2.2.1).length).2.1, (c ++ (pi' t N a c.length).2.2.1) ++ (pi' t N ((pi' t N a c.length).1 + 1) (c ++ (pi' t N a c.length).2.2.1).length).2.2.1, fun g => ((acc g).or ((pi' t N a c.length).2.2.2 g)).or ((pi' t N ((pi' t N a c.length).1 + 1) (c ++ (pi' t N a c.length).2.2.1).length).2.2.2 g)) := by
            rw [px, if_pos hc]
          rw [hp] at hK
          rw [hc.1] at m3
          obtain ⟨v1, v2⟩ := m3.2.2.1 rfl
          have tk := fun d K => m_takes tp3 d n J K (c := 59) (cc := 59) rfl (by decide) (by decide) p2 m3.2.1 v1
          have pg := pi_gp t N ((pi' t N a c.length).1 + 1) (c ++ (pi' t N a c.length).2.2.1).length (by omega)
          simp only [z177_0, z177_1, z177_2, z177_5, z177_6, z177_7, z177_10, z177_11, z177_12, z177_15, z177_16, z177_17, z177_20, z177_21, z177_22, z177_25, z177_26, z177_27, z177_28, z177_30, z177_31, z177_35, z177_38, z177_39, z177_42, z177_44, z177_45, z177_47, z177_48, z177_50, z177_53, z177_56, z177_58, z177_61, z177_62, z177_65, z177_66, z177_68, z177_69, z177_72, z177_74, z177_75, z177_78, z177_81, z177_83, z177_86, z177_87, z177_90, z177_91, z177_92, z177_94, z177_96, z177_97, z177_99, z177_102, z177_104, z177_107, z177_108, z177_111, z177_114, z177_115, z177_118, z177_119, z177_122, z177_125, z177_126, z177_129, z177_130, z177_132, sm_cti, sm_ctr, sm_ctn, sm_nbi, Option.toList_some, Option.toList_none, List.cons_append, List.nil_append, ne_eq, reduceCtorEq, not_false_eq_true, Nat.reduceLeDiff, rc103, tk, if_pos hc.2, if_true, if_false, not_true_eq_false, not_false_eq_true, and_true, true_and, and_false, false_and, and_self, or_true, true_or, or_false, false_or, reduceIte, iff_self, Int32.add_zero, y_10, Classical.not_not]
          exact m_wlp hT hO fr en d n J K k ((pi' t N a c.length).1 + 1) (c ++ (pi' t N a c.length).2.2.1) (fun g => (acc g).or ((pi' t N a c.length).2.2.2 g)) _ gn gs _ _ (by omega) (by omega) (mpo_tr m3 (mpo_at v1)) (h3 hc.1) hK
      · have hp : px t N k ((pi' t N a c.length).1, (pi' t N a c.length).2.1, c ++ (pi' t N a c.length).2.2.1, fun g => (acc g).or ((pi' t N a c.length).2.2.2 g)) = ((pi' t N a c.length).1, (pi' t N a c.length).2.1, c ++ (pi' t N a c.length).2.2.1, fun g => (acc g).or ((pi' t N a c.length).2.2.2 g)) := by
          match k with
          | 0 => rfl
          | k + 1 => rw [px, if_neg hc]
        rw [hp] at hK
        have fin := fun y6 y7 => hK I3 gn gs y6 y7 m3 h3
        cases hwr : (pi' t N a c.length).2.1 with
        | true =>
          have wf := m3.2.2.2 hwr
          simp only [z177_0, z177_1, z177_2, z177_5, z177_6, z177_7, z177_10, z177_11, z177_12, z177_15, z177_16, z177_17, z177_20, z177_21, z177_22, z177_25, z177_26, z177_27, z177_28, z177_30, z177_31, z177_35, z177_38, z177_39, z177_42, z177_44, z177_45, z177_47, z177_48, z177_50, z177_53, z177_56, z177_58, z177_61, z177_62, z177_65, z177_66, z177_68, z177_69, z177_72, z177_74, z177_75, z177_78, z177_81, z177_83, z177_86, z177_87, z177_90, z177_91, z177_92, z177_94, z177_96, z177_97, z177_99, z177_102, z177_104, z177_107, z177_108, z177_111, z177_114, z177_115, z177_118, z177_119, z177_122, z177_125, z177_126, z177_129, z177_130, z177_132, sm_cti, sm_ctr, sm_ctn, sm_nbi, Option.toList_some, Option.toList_none, List.cons_append, List.nil_append, ne_eq, reduceCtorEq, not_false_eq_true, Nat.reduceLeDiff, rc103, m_takesF _ _ _ _ _ (show (pi' t N a c.length).1 < 2 ^ 31 by omega) wf, if_true, if_false, not_true_eq_false, not_false_eq_true, and_true, true_and, and_false, false_and, and_self, or_true, true_or, or_false, false_or, reduceIte, iff_self, Int32.add_zero, y_10, Classical.not_not]
          rw [z177_33]
          simp only [z177_35, sm_cti, sm_ctr, sm_ctn, sm_nbi, Option.toList_some, Option.toList_none, List.cons_append, List.nil_append, ne_eq, reduceCtorEq, not_false_eq_true, Nat.reduceLeDiff, if_true, if_false, not_true_eq_false, not_false_eq_true, and_true, true_and, and_false, false_and, and_self, or_true, true_or, or_false, false_or, reduceIte, iff_self, Int32.add_zero, y_10, Classical.not_not]
          exact fin _ _
        | false =>
          rw [hwr] at m3
          obtain ⟨v1, v2⟩ := m3.2.2.1 rfl
          have tk := fun d K => m_takes tp3 d n J K (c := 59) (cc := 59) rfl (by decide) (by decide) p2 m3.2.1 v1
          simp only [z177_0, z177_1, z177_2, z177_5, z177_6, z177_7, z177_10, z177_11, z177_12, z177_15, z177_16, z177_17, z177_20, z177_21, z177_22, z177_25, z177_26, z177_27, z177_28, z177_30, z177_31, z177_35, z177_38, z177_39, z177_42, z177_44, z177_45, z177_47, z177_48, z177_50, z177_53, z177_56, z177_58, z177_61, z177_62, z177_65, z177_66, z177_68, z177_69, z177_72, z177_74, z177_75, z177_78, z177_81, z177_83, z177_86, z177_87, z177_90, z177_91, z177_92, z177_94, z177_96, z177_97, z177_99, z177_102, z177_104, z177_107, z177_108, z177_111, z177_114, z177_115, z177_118, z177_119, z177_122, z177_125, z177_126, z177_129, z177_130, z177_132, sm_cti, sm_ctr, sm_ctn, sm_nbi, Option.toList_some, Option.toList_none, List.cons_append, List.nil_append, ne_eq, reduceCtorEq, not_false_eq_true, Nat.reduceLeDiff, rc103, tk, if_neg (fun z => hc ⟨hwr, z⟩), if_true, if_false, not_true_eq_false, not_false_eq_true, and_true, true_and, and_false, false_and, and_self, or_true, true_or, or_false, false_or, reduceIte, iff_self, Int32.add_zero, y_10, Classical.not_not]
          rw [z177_33]
          simp only [z177_35, sm_cti, sm_ctr, sm_ctn, sm_nbi, Option.toList_some, Option.toList_none, List.cons_append, List.nil_append, ne_eq, reduceCtorEq, not_false_eq_true, Nat.reduceLeDiff, if_true, if_false, not_true_eq_false, not_false_eq_true, and_true, true_and, and_false, false_and, and_self, or_true, true_or, or_false, false_or, reduceIte, iff_self, Int32.add_zero, y_10, Classical.not_not]
          exact fin _ _
    -- a line gone wrong
    have tailW : ∀ (I3 : sm_I) (x6 x7 : Int32), mpo (pi' t N a c.length).1 true I I3 → (pi' t N a c.length).2.1 = true → sm_Ok (d + 46) 177 74 [.ref 103, .int fr, .int en, .int gn, .int gs, .int 1, .int x6, .int x7] [] (sm_SH n, I3, J) K := by
      intro I3 x6 x7 m3 hw
      have wf := m3.2.2.2 rfl
      have w0 : (0 : Int32) ≤ nI (pi' t N a c.length).1 := nI_pos' (by omega)
      have := tail I3 gn gs x6 x7 (by rw [hw]; exact m3) (fun z => by rw [hw] at z; cases z)
      simp only [z177_0, z177_1, z177_2, z177_5, z177_6, z177_7, z177_10, z177_11, z177_12, z177_15, z177_16, z177_17, z177_20, z177_21, z177_22, z177_25, z177_26, z177_27, z177_28, z177_30, z177_31, z177_35, z177_38, z177_39, z177_42, z177_44, z177_45, z177_47, z177_48, z177_50, z177_53, z177_56, z177_58, z177_61, z177_62, z177_65, z177_66, z177_68, z177_69, z177_72, z177_74, z177_75, z177_78, z177_81, z177_83, z177_86, z177_87, z177_90, z177_91, z177_92, z177_94, z177_96, z177_97, z177_99, z177_102, z177_104, z177_107, z177_108, z177_111, z177_114, z177_115, z177_118, z177_119, z177_122, z177_125, z177_126, z177_129, z177_130, z177_132, sm_cti, sm_ctr, sm_ctn, sm_nbi, Option.toList_some, Option.toList_none, List.cons_append, List.nil_append, ne_eq, reduceCtorEq, not_false_eq_true, Nat.reduceLeDiff, kc103, rc103, wf, w0, if_true, if_false, not_true_eq_false, not_false_eq_true, and_true, true_and, and_false, false_and, and_self, or_true, true_or, or_false, false_or, reduceIte, iff_self, Int32.add_zero, y_10, Classical.not_not] at this ⊢
      exact this
    -- a line that came through
    have tailG : ∀ (I3 : sm_I) (v h : Int32), mpo (pi' t N a c.length).1 false I I3 → (pi' t N a c.length).2.1 = false → (pi' t N a c.length).2.2.2 (I 112) = (if h = 0 then none else some v) → sm_Ok (d + 46) 177 74 [.ref 103, .int fr, .int en, .int gn, .int gs, .int 1, .int v, .int h] [] (sm_SH n, I3, J) K := by
      intro I3 v h m3 hw hval
      obtain ⟨v1, v2⟩ := m3.2.2.1 rfl
      have T := fun gn gs hh => tail I3 gn gs v h (by rw [hw]; exact m3) (fun _ => hh)
      rw [hval] at T
      by_cases hh0 : h = 0
      · have := T gn gs (by rw [if_pos hh0, Option.or_none]; exact hr)
        simp only [z177_0, z177_1, z177_2, z177_5, z177_6, z177_7, z177_10, z177_11, z177_12, z177_15, z177_16, z177_17, z177_20, z177_21, z177_22, z177_25, z177_26, z177_27, z177_28, z177_30, z177_31, z177_35, z177_38, z177_39, z177_42, z177_44, z177_45, z177_47, z177_48, z177_50, z177_53, z177_56, z177_58, z177_61, z177_62, z177_65, z177_66, z177_68, z177_69, z177_72, z177_74, z177_75, z177_78, z177_81, z177_83, z177_86, z177_87, z177_90, z177_91, z177_92, z177_94, z177_96, z177_97, z177_99, z177_102, z177_104, z177_107, z177_108, z177_111, z177_114, z177_115, z177_118, z177_119, z177_122, z177_125, z177_126, z177_129, z177_130, z177_132, sm_cti, sm_ctr, sm_ctn, sm_nbi, Option.toList_some, Option.toList_none, List.cons_append, List.nil_append, ne_eq, reduceCtorEq, not_false_eq_true, Nat.reduceLeDiff, kc103, rc103, v1, ey2, hh0, if_true, if_false, not_true_eq_false, not_false_eq_true, and_true, true_and, and_false, false_and, and_self, or_true, true_or, or_false, false_or, reduceIte, iff_self, Int32.add_zero, y_10, Classical.not_not] at this ⊢
        exact this
      · rw [if_neg hh0] at T
        rcases hr with ⟨r1, r2, r3⟩ | ⟨r1, r2⟩
        · have := T 1 v (Or.inr ⟨rfl, by rw [r1, Option.none_or]⟩)
          simp only [z177_0, z177_1, z177_2, z177_5, z177_6, z177_7, z177_10, z177_11, z177_12, z177_15, z177_16, z177_17, z177_20, z177_21, z177_22, z177_25, z177_26, z177_27, z177_28, z177_30, z177_31, z177_35, z177_38, z177_39, z177_42, z177_44, z177_45, z177_47, z177_48, z177_50, z177_53, z177_56, z177_58, z177_61, z177_62, z177_65, z177_66, z177_68, z177_69, z177_72, z177_74, z177_75, z177_78, z177_81, z177_83, z177_86, z177_87, z177_90, z177_91, z177_92, z177_94, z177_96, z177_97, z177_99, z177_102, z177_104, z177_107, z177_108, z177_111, z177_114, z177_115, z177_118, z177_119, z177_122, z177_125, z177_126, z177_129, z177_130, z177_132, sm_cti, sm_ctr, sm_ctn, sm_nbi, Option.toList_some, Option.toList_none, List.cons_append, List.nil_append, ne_eq, reduceCtorEq, not_false_eq_true, Nat.reduceLeDiff, kc103, rc103, v1, ey2, hh0, r2, if_true, if_false, not_true_eq_false, not_false_eq_true, and_true, true_and, and_false, false_and, and_self, or_true, true_or, or_false, false_or, reduceIte, iff_self, Int32.add_zero, y_10, Classical.not_not] at this ⊢
          exact this
        · have := T gn gs (Or.inr ⟨r1, by rw [r2, Option.some_or]⟩)
          simp only [z177_0, z177_1, z177_2, z177_5, z177_6, z177_7, z177_10, z177_11, z177_12, z177_15, z177_16, z177_17, z177_20, z177_21, z177_22, z177_25, z177_26, z177_27, z177_28, z177_30, z177_31, z177_35, z177_38, z177_39, z177_42, z177_44, z177_45, z177_47, z177_48, z177_50, z177_53, z177_56, z177_58, z177_61, z177_62, z177_65, z177_66, z177_68, z177_69, z177_72, z177_74, z177_75, z177_78, z177_81, z177_83, z177_86, z177_87, z177_90, z177_91, z177_92, z177_94, z177_96, z177_97, z177_99, z177_102, z177_104, z177_107, z177_108, z177_111, z177_114, z177_115, z177_118, z177_119, z177_122, z177_125, z177_126, z177_129, z177_130, z177_132, sm_cti, sm_ctr, sm_ctn, sm_nbi, Option.toList_some, Option.toList_none, List.cons_append, List.nil_append, ne_eq, reduceCtorEq, not_false_eq_true, Nat.reduceLeDiff, kc103, rc103, v1, ey2, hh0, r1, if_true, if_false, not_true_eq_false, not_false_eq_true, and_true, true_and, and_false, false_and, and_self, or_true, true_or, or_false, false_or, reduceIte, iff_self, Int32.add_zero, y_10, Classical.not_not] at this ⊢
          exact this
    have ex := m_expr (t := t) (N := N)
    have q1 : ¬ (1 : Int32) = 0 := by decide
    rw [z177_33]
    simp only [z177_35, z177_38, z177_39, sm_cti, sm_ctr, sm_ctn, sm_nbi, Option.toList_some, Option.toList_none, List.cons_append, List.nil_append, ne_eq, reduceCtorEq, not_false_eq_true, Nat.reduceLeDiff, rc103, q1, if_true, if_false, not_true_eq_false, not_false_eq_true, and_true, true_and, and_false, false_and, and_self, or_true, true_or, or_false, false_or, reduceIte, iff_self, Int32.add_zero, y_10, Classical.not_not]
    refine ex d n J _ I1 a tp1 ha hm.2.1 u1 (by rw [u2, hO]) (fun I2 v m2 hv => ?_)
    rw [mpo_nm hm] at hv
    have m2' := mpo_tr hm m2
    have tp2 := mpo_tp m2' hT
    cases hwr : (pe t N a).2.1 with
    | true =>
      obtain ⟨w1, w2⟩ := pi_ok (w := c.length) hwr
      rw [hwr] at m2'
      have wf := m2'.2.2.2 rfl
      simp only [z177_42, z177_44, z177_45, z177_47, z177_48, z177_50, z177_53, sm_cti, sm_ctr, sm_ctn, sm_nbi, Option.toList_some, Option.toList_none, List.cons_append, List.nil_append, ne_eq, reduceCtorEq, not_false_eq_true, Nat.reduceLeDiff, rc103, m_takesF _ _ _ _ _ (show (pe t N a).1 < 2 ^ 31 by omega) wf, if_true, if_false, not_true_eq_false, not_false_eq_true, and_true, true_and, and_false, false_and, and_self, or_true, true_or, or_false, false_or, reduceIte, iff_self, Int32.add_zero, y_10, Classical.not_not]
      exact tailW I2 v 1 (by rw [w1]; exact m2') w2
    | false =>
      rw [hwr] at m2' hv
      obtain ⟨v1, v2⟩ := m2'.2.2.1 rfl
      have tk := fun d K => m_takes tp2 d n J K (c := 63) (cc := 63) rfl (by decide) (by decide) g2 m2'.2.1 v1
      simp only [z177_42, z177_44, z177_45, z177_47, z177_48, z177_50, sm_cti, sm_ctr, sm_ctn, sm_nbi, Option.toList_some, Option.toList_none, List.cons_append, List.nil_append, ne_eq, reduceCtorEq, not_false_eq_true, Nat.reduceLeDiff, rc103, tk, if_true, if_false, not_true_eq_false, not_false_eq_true, and_true, true_and, and_false, false_and, and_self, or_true, true_or, or_false, false_or, reduceIte, iff_self, Int32.add_zero, y_10, Classical.not_not]
      by_cases hd : (pe t N a).1 < N ∧ t (pe t N a).1 = 63
      · have epi : ∀ w, pi' t N a w = ((pe t N ((pe t N a).1 + 1)).1, (pe t N ((pe t N a).1 + 1)).2.1, (pe t N a).2.2.1 ++ 63 :: nI (w + (pe t N a).2.2.1.length + 2 + (pe t N ((pe t N a).1 + 1)).2.2.1.length + 1) :: ((pe t N ((pe t N a).1 + 1)).2.2.1 ++ [59]), fun g => if (pe t N a).2.2.2 g = 0 then none else some ((pe t N ((pe t N a).1 + 1)).2.2.2 g)) := fun w => by
          unfold pi'
          rw [if_pos ⟨hwr, hd⟩]
        rw [if_pos hd]
        have m3 := mpo_tr m2' (mpo_at (a := (pe t N a).1 + 1) v1)
        obtain ⟨s1, s2⟩ := m3.2.2.1 rfl
        have fin : ∀ h : Int32, (h = 0 ↔ v = 0) → sm_Ok (d + 46) 177 66 [.ref 103, .int fr, .int en, .int gn, .int gs, .int 1, .int v, .int 1] [.int h] (sm_SH n, sm_uI I2 103 15 (nI ((pe t N a).1 + 1)), J) K := by
          intro h hh
          simp only [z177_66, z177_68, z177_69, sm_cti, sm_ctr, sm_ctn, sm_nbi, Option.toList_some, Option.toList_none, List.cons_append, List.nil_append, ne_eq, reduceCtorEq, not_false_eq_true, Nat.reduceLeDiff, rc103, if_true, if_false, not_true_eq_false, not_false_eq_true, and_true, true_and, and_false, false_and, and_self, or_true, true_or, or_false, false_or, reduceIte, iff_self, Int32.add_zero, y_10, Classical.not_not]
          refine ex d n J _ _ ((pe t N a).1 + 1) (mpo_tp m3 hT) (by omega) m3.2.1 s1 (by rw [s2, hO]) (fun I4 v4 m4 hv4 => ?_)
          rw [mpo_nm m3] at hv4
          have m4' := mpo_tr m3 m4
          simp only [z177_72, sm_cti, sm_ctr, sm_ctn, sm_nbi, Option.toList_some, Option.toList_none, List.cons_append, List.nil_append, ne_eq, reduceCtorEq, not_false_eq_true, Nat.reduceLeDiff, if_true, if_false, not_true_eq_false, not_false_eq_true, and_true, true_and, and_false, false_and, and_self, or_true, true_or, or_false, false_or, reduceIte, iff_self, Int32.add_zero, y_10, Classical.not_not]
          cases hw4 : (pe t N ((pe t N a).1 + 1)).2.1 with
          | true =>
            rw [hw4] at m4'
            exact tailW I4 v4 h (by rw [epi]; exact m4') (by rw [epi]; exact hw4)
          | false =>
            rw [hw4] at m4' hv4
            refine tailG I4 v4 h (by rw [epi]; exact m4') (by rw [epi]; exact hw4) ?_
            rw [epi]
            dsimp only
            rw [← hv rfl, ← hv4 rfl]
            by_cases h0 : h = 0
            · rw [if_pos h0, if_pos (hh.mp h0)]
            · rw [if_neg h0, if_neg (fun z => h0 (hh.mpr z))]
        by_cases hv0 : v = 0
        · have := fin 0 (by rw [hv0])
          simp only [hv0, z177_0, z177_1, z177_2, z177_5, z177_6, z177_7, z177_10, z177_11, z177_12, z177_15, z177_16, z177_17, z177_20, z177_21, z177_22, z177_25, z177_26, z177_27, z177_28, z177_30, z177_31, z177_35, z177_38, z177_39, z177_42, z177_44, z177_45, z177_47, z177_48, z177_50, z177_53, z177_56, z177_58, z177_61, z177_62, z177_65, z177_66, z177_68, z177_69, z177_72, z177_74, z177_75, z177_78, z177_81, z177_83, z177_86, z177_87, z177_90, z177_91, z177_92, z177_94, z177_96, z177_97, z177_99, z177_102, z177_104, z177_107, z177_108, z177_111, z177_114, z177_115, z177_118, z177_119, z177_122, z177_125, z177_126, z177_129, z177_130, z177_132, sm_cti, sm_ctr, sm_ctn, sm_nbi, Option.toList_some, Option.toList_none, List.cons_append, List.nil_append, ne_eq, reduceCtorEq, not_false_eq_true, Nat.reduceLeDiff, rc103, if_true, if_false, not_true_eq_false, not_false_eq_true, and_true, true_and, and_false, false_and, and_self, or_true, true_or, or_false, false_or, reduceIte, iff_self, Int32.add_zero, y_10, Classical.not_not] at this ⊢
          exact this
        · have := fin 1 ⟨fun z => absurd z (by decide), fun z => absurd z hv0⟩
          simp only [hv0, z177_0, z177_1, z177_2, z177_5, z177_6, z177_7, z177_10, z177_11, z177_12, z177_15, z177_16, z177_17, z177_20, z177_21, z177_22, z177_25, z177_26, z177_27, z177_28, z177_30, z177_31, z177_35, z177_38, z177_39, z177_42, z177_44, z177_45, z177_47, z177_48, z177_50, z177_53, z177_56, z177_58, z177_61, z177_62, z177_65, z177_66, z177_68, z177_69, z177_72, z177_74, z177_75, z177_78, z177_81, z177_83, z177_86, z177_87, z177_90, z177_91, z177_92, z177_94, z177_96, z177_97, z177_99, z177_102, z177_104, z177_107, z177_108, z177_111, z177_114, z177_115, z177_118, z177_119, z177_122, z177_125, z177_126, z177_129, z177_130, z177_132, sm_cti, sm_ctr, sm_ctn, sm_nbi, Option.toList_some, Option.toList_none, List.cons_append, List.nil_append, ne_eq, reduceCtorEq, not_false_eq_true, Nat.reduceLeDiff, rc103, if_true, if_false, not_true_eq_false, not_false_eq_true, and_true, true_and, and_false, false_and, and_self, or_true, true_or, or_false, false_or, reduceIte, iff_self, Int32.add_zero, y_10, Classical.not_not] at this ⊢
          exact this
      · have epi : ∀ w, pi' t N a w = ((pe t N a).1, (pe t N a).2.1, (pe t N a).2.2.1 ++ [59], fun g => some ((pe t N a).2.2.2 g)) := fun w => by
          unfold pi'
          rw [if_neg (fun z => hd z.2)]
        rw [if_neg hd]
        have := tailG I2 v 1 (by rw [epi]; exact m2') (by rw [epi]; exact hwr) (by rw [epi]; dsimp only; rw [← hv rfl, if_neg (by decide)])
        simp only [z177_0, z177_1, z177_2, z177_5, z177_6, z177_7, z177_10, z177_11, z177_12, z177_15, z177_16, z177_17, z177_20, z177_21, z177_22, z177_25, z177_26, z177_27, z177_28, z177_30, z177_31, z177_35, z177_38, z177_39, z177_42, z177_44, z177_45, z177_47, z177_48, z177_50, z177_53, z177_56, z177_58, z177_61, z177_62, z177_65, z177_66, z177_68, z177_69, z177_72, z177_74, z177_75, z177_78, z177_81, z177_83, z177_86, z177_87, z177_90, z177_91, z177_92, z177_94, z177_96, z177_97, z177_99, z177_102, z177_104, z177_107, z177_108, z177_111, z177_114, z177_115, z177_118, z177_119, z177_122, z177_125, z177_126, z177_129, z177_130, z177_132, sm_cti, sm_ctr, sm_ctn, sm_nbi, Option.toList_some, Option.toList_none, List.cons_append, List.nil_append, ne_eq, reduceCtorEq, not_false_eq_true, Nat.reduceLeDiff, rc103, if_true, if_false, not_true_eq_false, not_false_eq_true, and_true, true_and, and_false, false_and, and_self, or_true, true_or, or_false, false_or, reduceIte, iff_self, Int32.add_zero, y_10, Classical.not_not] at this ⊢
        exact this
  termination_by k => k
theorem m_work {I : sm_I} (hN : N ≤ 120) (ht : ∀ j, j < N → t j < 256) {fr : Int32} (hb : (fr = -1 ∧ ∀ j, j < N → I 110 j = nI (t j)) ∨ (fr = 0 ∧ ∀ j, j < N → I 111 j = nI (t j))) (d n : Nat) (J : sm_J) (K : Option Value → sm_H → Prop)
    (hK : ∀ (I' : sm_I) (v : Int32), (∀ x b, ¬ (x = 103 ∧ 14 ≤ b ∧ b ≤ 18) → I' x b = I x b) → I' 103 17 = (if (pt t N).2.1 = false ∧ (pt t N).1 = N then -1 else nI (pt t N).1) → ((pt t N).2.1 = false ∧ (pt t N).1 = N → v = lv t N (I 112)) → K (some (.int v)) (sm_SH n, I', J)) :
    sm_Ok (d + 46) 177 0 [.ref 103, .int fr, .int (nI N), .null, .null, .null, .null, .null] [] (sm_SH n, I, J) K := by
  let I0 := sm_uI (sm_uI (sm_uI (sm_uI (sm_uI I 103 14 fr) 103 15 0) 103 16 (nI N)) 103 17 (-1)) 103 18 0
  have f0 : ∀ x b, ¬ (x = 103 ∧ 14 ≤ b ∧ b ≤ 18) → I0 x b = I x b := fun x b hx => by
    show sm_uI (sm_uI (sm_uI (sm_uI (sm_uI I 103 14 fr) 103 15 0) 103 16 (nI N)) 103 17 (-1)) 103 18 0 x b = _
    rw [uI_o _ _ (by omega), uI_o _ _ (by omega), uI_o _ _ (by omega), uI_o _ _ (by omega), uI_o _ _ (by omega)]
  have e14 : I0 103 14 = fr := by
    show sm_uI (sm_uI (sm_uI (sm_uI (sm_uI I 103 14 fr) 103 15 0) 103 16 (nI N)) 103 17 (-1)) 103 18 0 103 14 = _
    rw [uI_o _ _ (by omega), uI_o _ _ (by omega), uI_o _ _ (by omega), uI_o _ _ (by omega), uI_s]
  have e15 : I0 103 15 = nI 0 := by
    show sm_uI (sm_uI (sm_uI (sm_uI (sm_uI I 103 14 fr) 103 15 0) 103 16 (nI N)) 103 17 (-1)) 103 18 0 103 15 = _
    rw [uI_o _ _ (by omega), uI_o _ _ (by omega), uI_o _ _ (by omega), uI_s]
    rfl
  have e16 : I0 103 16 = nI N := by
    show sm_uI (sm_uI (sm_uI (sm_uI (sm_uI I 103 14 fr) 103 15 0) 103 16 (nI N)) 103 17 (-1)) 103 18 0 103 16 = _
    rw [uI_o _ _ (by omega), uI_o _ _ (by omega), uI_s]
  have e17 : I0 103 17 = -1 := by
    show sm_uI (sm_uI (sm_uI (sm_uI (sm_uI I 103 14 fr) 103 15 0) 103 16 (nI N)) 103 17 (-1)) 103 18 0 103 17 = _
    rw [uI_o _ _ (by omega), uI_s]
  have e18 : I0 103 18 = nI 0 := by
    show sm_uI (sm_uI (sm_uI (sm_uI (sm_uI I 103 14 fr) 103 15 0) 103 16 (nI N)) 103 17 (-1)) 103 18 0 103 18 = _
    rw [uI_s]
    rfl
  have g112 : I0 112 = I 112 := funext (fun b => f0 112 b (by omega))
  have tp0 : mtp t N I0 := by
    refine ⟨hN, e16, ht, ?_⟩
    rcases hb with ⟨b1, b2⟩ | ⟨b1, b2⟩
    · exact Or.inl ⟨by rw [e14, b1], fun j hj => by rw [f0 _ _ (by omega), b2 j hj]⟩
    · exact Or.inr ⟨by rw [e14, b1], fun j hj => by rw [f0 _ _ (by omega), b2 j hj]⟩
  have ey2 : ¬ (0 : Int32) ≤ -1 := by decide
  obtain ⟨p1, p2⟩ := pt_gp t N
  simp only [z177_0, z177_1, z177_2, z177_5, z177_6, z177_7, z177_10, z177_11, z177_12, z177_15, z177_16, z177_17, z177_20, z177_21, z177_22, z177_25, z177_26, z177_27, z177_28, z177_30, z177_31, sm_cti, sm_ctr, sm_ctn, sm_nbi, Option.toList_some, Option.toList_none, List.cons_append, List.nil_append, ne_eq, reduceCtorEq, not_false_eq_true, Nat.reduceLeDiff, kc103, if_true, if_false, not_true_eq_false, not_false_eq_true, and_true, true_and, and_false, false_and, and_self, or_true, true_or, or_false, false_or, reduceIte, iff_self, Int32.add_zero, y_10, Classical.not_not]
  refine m_wlp tp0 e18 _ _ d n J K 120 0 [] (fun _ => none) I0 0 0 .null .null (Nat.zero_le _) (by omega) ⟨fun x b _ => rfl, e15, fun _ => ⟨e17, rfl⟩, (fun h => by cases h)⟩ (Or.inl ⟨rfl, rfl, rfl⟩) (fun I' gn gs x6 x7 hm hr => ?_)
  have hm' : mpo (pt t N).1 (pt t N).2.1 I0 I' := hm
  have hr' : (pt t N).2.1 = false → rep gn gs ((pt t N).2.2.2 (I0 112)) := hr
  rw [g112] at hr'
  have fr' : ∀ x b, ¬ (x = 103 ∧ 14 ≤ b ∧ b ≤ 18) → I' x b = I x b := fun x b hx => by rw [hm'.1 x b (by omega), f0 x b hx]
  have l16 : I' 103 16 = nI N := by rw [hm'.1 _ _ (by omega), e16]
  have eN : (nI N ≤ nI (pt t N).1) = (N ≤ (pt t N).1) := propext (nI_leI (by omega) (by omega))
  cases hwr : (pt t N).2.1 with
  | true =>
    have wf := hm'.2.2.2 hwr
    have w0 : (0 : Int32) ≤ nI (pt t N).1 := nI_pos' (by omega)
    simp only [z177_0, z177_1, z177_2, z177_5, z177_6, z177_7, z177_10, z177_11, z177_12, z177_15, z177_16, z177_17, z177_20, z177_21, z177_22, z177_25, z177_26, z177_27, z177_28, z177_30, z177_31, z177_35, z177_38, z177_39, z177_42, z177_44, z177_45, z177_47, z177_48, z177_50, z177_53, z177_56, z177_58, z177_61, z177_62, z177_65, z177_66, z177_68, z177_69, z177_72, z177_74, z177_75, z177_78, z177_81, z177_83, z177_86, z177_87, z177_90, z177_91, z177_92, z177_94, z177_96, z177_97, z177_99, z177_102, z177_104, z177_107, z177_108, z177_111, z177_114, z177_115, z177_118, z177_119, z177_122, z177_125, z177_126, z177_129, z177_130, z177_132, sm_cti, sm_ctr, sm_ctn, sm_nbi, Option.toList_some, Option.toList_none, List.cons_append, List.nil_append, ne_eq, reduceCtorEq, not_false_eq_true, Nat.reduceLeDiff, kc103, wf, w0, if_true, if_false, not_true_eq_false, not_false_eq_true, and_true, true_and, and_false, false_and, and_self, or_true, true_or, or_false, false_or, reduceIte, iff_self, Int32.add_zero, y_10, Classical.not_not]
    refine hK I' gs fr' ?_ (fun z => by rw [hwr] at z; cases z.1)
    rw [if_neg (fun z => by rw [hwr] at z; cases z.1), wf]
  | false =>
    have v1 := (hm'.2.2.1 hwr).1
    simp only [z177_0, z177_1, z177_2, z177_5, z177_6, z177_7, z177_10, z177_11, z177_12, z177_15, z177_16, z177_17, z177_20, z177_21, z177_22, z177_25, z177_26, z177_27, z177_28, z177_30, z177_31, z177_35, z177_38, z177_39, z177_42, z177_44, z177_45, z177_47, z177_48, z177_50, z177_53, z177_56, z177_58, z177_61, z177_62, z177_65, z177_66, z177_68, z177_69, z177_72, z177_74, z177_75, z177_78, z177_81, z177_83, z177_86, z177_87, z177_90, z177_91, z177_92, z177_94, z177_96, z177_97, z177_99, z177_102, z177_104, z177_107, z177_108, z177_111, z177_114, z177_115, z177_118, z177_119, z177_122, z177_125, z177_126, z177_129, z177_130, z177_132, sm_cti, sm_ctr, sm_ctn, sm_nbi, Option.toList_some, Option.toList_none, List.cons_append, List.nil_append, ne_eq, reduceCtorEq, not_false_eq_true, Nat.reduceLeDiff, kc103, rc103, v1, ey2, hm'.2.1, l16, eN, if_true, if_false, not_true_eq_false, not_false_eq_true, and_true, true_and, and_false, false_and, and_self, or_true, true_or, or_false, false_or, reduceIte, iff_self, Int32.add_zero, y_10, Classical.not_not]
    by_cases hl : N ≤ (pt t N).1
    · have hE : (pt t N).1 = N := by omega
      simp only [hl, if_true, if_false, not_true_eq_false, not_false_eq_true, and_true, true_and, and_false, false_and, and_self, or_true, true_or, or_false, false_or, reduceIte, iff_self, Int32.add_zero, y_10, Classical.not_not]
      refine hK I' gs fr' ?_ (fun _ => ?_)
      · rw [if_pos ⟨hwr, hE⟩, v1]
      · unfold lv
        rcases hr' hwr with ⟨r1, r2, r3⟩ | ⟨r1, r2⟩
        · rw [r1, r3]
          rfl
        · rw [r2]
          rfl
    · have hE : ¬ (pt t N).1 = N := by omega
      simp only [hl, z177_0, z177_1, z177_2, z177_5, z177_6, z177_7, z177_10, z177_11, z177_12, z177_15, z177_16, z177_17, z177_20, z177_21, z177_22, z177_25, z177_26, z177_27, z177_28, z177_30, z177_31, z177_35, z177_38, z177_39, z177_42, z177_44, z177_45, z177_47, z177_48, z177_50, z177_53, z177_56, z177_58, z177_61, z177_62, z177_65, z177_66, z177_68, z177_69, z177_72, z177_74, z177_75, z177_78, z177_81, z177_83, z177_86, z177_87, z177_90, z177_91, z177_92, z177_94, z177_96, z177_97, z177_99, z177_102, z177_104, z177_107, z177_108, z177_111, z177_114, z177_115, z177_118, z177_119, z177_122, z177_125, z177_126, z177_129, z177_130, z177_132, sm_cti, sm_ctr, sm_ctn, sm_nbi, Option.toList_some, Option.toList_none, List.cons_append, List.nil_append, ne_eq, reduceCtorEq, not_false_eq_true, Nat.reduceLeDiff, rc103, m_wrong _ _ _ _ v1, if_true, if_false, not_true_eq_false, not_false_eq_true, and_true, true_and, and_false, false_and, and_self, or_true, true_or, or_false, false_or, reduceIte, iff_self, Int32.add_zero, y_10, Classical.not_not]
      refine hK _ 0 (fun x b hx => by rw [uI_o _ _ (by omega), fr' x b hx]) ?_ (fun z => absurd z.2 hE)
      rw [if_neg (fun z => hE z.2), uI_s, hm'.2.1]
end
