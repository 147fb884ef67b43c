/-! both answer alike: lane -/
theorem pln_min {f a b : Nat → Nat} {D : Nat} : ∀ k, (∃ B, pln f a b k D 0 0 (fun _ => 0) = some B) → ∃ ms, ms ≤ k ∧ (∃ B, pln f a b ms D 0 0 (fun _ => 0) = some B) ∧ ∀ m, m < ms → pln f a b m D 0 0 (fun _ => 0) = none := by
  intro k
  induction k using Nat.strongRecOn with
  | ind k ih =>
    intro hk
    by_cases h : ∃ m, m < k ∧ ∃ B, pln f a b m D 0 0 (fun _ => 0) = some B
    · obtain ⟨m, h1, h2⟩ := h
      obtain ⟨ms, a1, a2, a3⟩ := ih m h1 h2
      exact ⟨ms, by omega, a2, a3⟩
    · refine ⟨k, Nat.le_refl _, hk, fun m hm => ?_⟩
      cases hx : pln f a b m D 0 0 (fun _ => 0) with
      | none => rfl
      | some B => exact absurd ⟨m, hm, B, hx⟩ h
/-- an evening as the reference writes it down -/
def oe (f A : Nat → Nat) (o : Nat) : Int32 := if f (40 + o) = 0 then -2 else nI (A o)
section
variable {P D : Nat} {f a b : Nat → Nat}
def flp (f : Nat → Nat) (D e : Nat) (A : Nat → Nat) (res : Option (Nat → Nat)) (I' : sm_I) : Prop := match res with
  | some B => ∀ o, o < D → I' 120 o = oe f B o
  | none => ∀ o, o < e → I' 120 o = oe f A o
theorem m_fl_o {I : sm_I} (hb : bdf P D f a b) (hM : mFo P D f a b I) {e t : Nat} {A : Nat → Nat} (he : e < D) (ht : t < 12) (hA : ∀ o, A o ≤ 12) (h1 : ∀ o, o < e → I 120 o = oe f A o) (x2 x3 : Int32) (d n : Nat) (J : sm_J) (K : Option Value → sm_H → Prop) : ∀ (w k : Nat), k + w = e →
    (sm_Ok (d + 2) 202 61 [.ref 103, .int (nI e), .int x2, .int x3, .int (nI t), .int (bi (andb (fun o => decide (f (40 + o) = 0) || !decide (A o = t) || !decide (CL f a b o e)) k)), .int (nI k)] [] (sm_SH n, I, J) K ↔ sm_Ok (d + 2) 202 107 [.ref 103, .int (nI e), .int x2, .int x3, .int (nI t), .int (bi (okt f a b A e t)), .int (nI e)] [] (sm_SH n, I, J) K)
  | 0, k, h => by
    have hk : k = e := by omega
    subst hk
    rw [z202_61]
    simp only [z202_63, z202_64, sm_cti, sm_ctr, sm_ctn, sm_nbi, Option.toList_some, Option.toList_none, List.cons_append, List.nil_append, ne_eq, reduceCtorEq, not_false_eq_true, Nat.reduceLeDiff, Int32.le_refl, if_true, if_false, not_true_eq_false, not_false_eq_true, and_true, true_and, and_false, false_and, and_self, or_true, true_or, or_false, false_or, reduceIte, iff_self, Int32.add_zero, y_10, Classical.not_not]
    exact Iff.rfl
  | w + 1, k, h => by
    have hD := hb.2.1
    have e0 : ¬ nI e ≤ nI k := nI_ge (show k < e by omega) (by omega)
    have b1 : bi true = 1 := rfl
    have b2 : bi false = 0 := rfl
    have eo := h1 k (by omega)
    have hAk := hA k
    rw [← m_fl_o hb hM he ht hA h1 x2 x3 d n J K w (k + 1) (by omega), z202_61, andb_s]
    cases h2 : andb (fun o => decide (f (40 + o) = 0) || !decide (A o = t) || !decide (CL f a b o e)) k with
    | false =>
      rw [Bool.false_and]
      simp only [z202_63, z202_64, z202_67, z202_69, z202_98, z202_99, z202_101, z202_104, sm_cti, sm_ctr, sm_ctn, sm_nbi, Option.toList_some, Option.toList_none, List.cons_append, List.nil_append, ne_eq, reduceCtorEq, not_false_eq_true, Nat.reduceLeDiff, e0, b2, nI_1, if_true, if_false, not_true_eq_false, not_false_eq_true, and_true, true_and, and_false, false_and, and_self, or_true, true_or, or_false, false_or, reduceIte, iff_self, Int32.add_zero, y_10, Classical.not_not]
    | true =>
      rw [Bool.true_and]
      by_cases h3 : f (40 + k) = 0
      · have h4 : (decide (f (40 + k) = 0) || !decide (A k = t) || !decide (CL f a b k e)) = true := by simp [h3]
        have eo2 : I 120 k = -2 := by
          rw [eo]
          unfold oe
          rw [if_pos h3]
        have ne : ¬ (-2 : Int32) = nI t := fun z => by
          have := nI_pos' (show t < 2 ^ 31 by omega)
          rw [← z] at this
          exact absurd this (by decide)
        rw [h4]
        simp only [z202_63, z202_64, z202_67, z202_69, z202_72, z202_73, z202_76, z202_78, z202_79, z202_81, z202_94, z202_95, z202_99, z202_101, z202_104, sm_cti, sm_ctr, sm_ctn, sm_nbi, Option.toList_some, Option.toList_none, List.cons_append, List.nil_append, ne_eq, reduceCtorEq, not_false_eq_true, Nat.reduceLeDiff, kc103, kc120, rf103_31, e0, b1, eo2, ne, nI_1, y_inN (show k < 12 by omega) (by decide), nI_clamp (show k < 2 ^ 31 by omega), if_true, if_false, not_true_eq_false, not_false_eq_true, and_true, true_and, and_false, false_and, and_self, or_true, true_or, or_false, false_or, reduceIte, iff_self, Int32.add_zero, y_10, Classical.not_not]
      · have eo2 : I 120 k = nI (A k) := by
          rw [eo]
          unfold oe
          rw [if_neg h3]
        have l1 : (nI (A k) = nI t) = (A k = t) := propext (nI_eq (by omega) (by omega))
        by_cases h5 : A k = t
        · have h5' := eq_true h5
          by_cases h6 : CL f a b k e
          · have h6' := eq_true h6
            have h4 : (decide (f (40 + k) = 0) || !decide (A k = t) || !decide (CL f a b k e)) = false := by
              rw [decide_eq_true h6]
              simp [h3, h5]
            rw [h4]
            simp only [z202_63, z202_64, z202_67, z202_69, z202_72, z202_73, z202_76, z202_78, z202_79, z202_81, z202_84, z202_85, z202_87, z202_88, z202_91, z202_98, z202_99, z202_101, z202_104, sm_cti, sm_ctr, sm_ctn, sm_nbi, Option.toList_some, Option.toList_none, List.cons_append, List.nil_append, ne_eq, reduceCtorEq, not_false_eq_true, Nat.reduceLeDiff, kc103, kc120, rc103, rf103_31, e0, b1, b2, eo2, l1, h5', m_clash hb hM (show k < D by omega) he, h6', y_bit, nI_1, y_inN (show k < 12 by omega) (by decide), nI_clamp (show k < 2 ^ 31 by omega), if_true, if_false, not_true_eq_false, not_false_eq_true, and_true, true_and, and_false, false_and, and_self, or_true, true_or, or_false, false_or, reduceIte, iff_self, Int32.add_zero, y_10, Classical.not_not]
          · have h6' := eq_false h6
            have h4 : (decide (f (40 + k) = 0) || !decide (A k = t) || !decide (CL f a b k e)) = true := by
              rw [decide_eq_false h6]
              simp
            rw [h4]
            simp only [z202_63, z202_64, z202_67, z202_69, z202_72, z202_73, z202_76, z202_78, z202_79, z202_81, z202_84, z202_85, z202_87, z202_88, z202_91, z202_94, z202_95, z202_99, z202_101, z202_104, sm_cti, sm_ctr, sm_ctn, sm_nbi, Option.toList_some, Option.toList_none, List.cons_append, List.nil_append, ne_eq, reduceCtorEq, not_false_eq_true, Nat.reduceLeDiff, kc103, kc120, rc103, rf103_31, e0, b1, eo2, l1, h5', m_clash hb hM (show k < D by omega) he, h6', y_bit, nI_1, y_inN (show k < 12 by omega) (by decide), nI_clamp (show k < 2 ^ 31 by omega), if_true, if_false, not_true_eq_false, not_false_eq_true, and_true, true_and, and_false, false_and, and_self, or_true, true_or, or_false, false_or, reduceIte, iff_self, Int32.add_zero, y_10, Classical.not_not]
        · have h4 : (decide (f (40 + k) = 0) || !decide (A k = t) || !decide (CL f a b k e)) = true := by simp [h5]
          rw [h4]
          simp only [z202_63, z202_64, z202_67, z202_69, z202_72, z202_73, z202_76, z202_78, z202_79, z202_81, z202_94, z202_95, z202_99, z202_101, z202_104, sm_cti, sm_ctr, sm_ctn, sm_nbi, Option.toList_some, Option.toList_none, List.cons_append, List.nil_append, ne_eq, reduceCtorEq, not_false_eq_true, Nat.reduceLeDiff, kc103, kc120, rf103_31, e0, b1, eo2, l1, h5, nI_1, y_inN (show k < 12 by omega) (by decide), nI_clamp (show k < 2 ^ 31 by omega), if_true, if_false, not_true_eq_false, not_false_eq_true, and_true, true_and, and_false, false_and, and_self, or_true, true_or, or_false, false_or, reduceIte, iff_self, Int32.add_zero, y_10, Classical.not_not]
theorem m_fl_in {I : sm_I} (hb : bdf P D f a b) (hM : mFo P D f a b I) {m w e u : Nat} {A : Nat → Nat} (hm : m ≤ 12) (he : e < D) (hu : u ≤ e) (hA : ∀ o, A o ≤ 12) (h0 : ¬ f (40 + e) = 0) (d n : Nat) (J : sm_J) (K : Option Value → sm_H → Prop)
    (H : ∀ t, t < m → t ≤ u → ∀ (I1 : sm_I) (K : Option Value → sm_H → Prop), (∀ x c, ¬ x = 120 → I1 x c = I x c) → (∀ o, o < e + 1 → I1 120 o = oe f (fv A e t) o) →
      (∀ I', (∀ x c, ¬ x = 120 → I' x c = I x c) → flp f D (e + 1) (fv A e t) (pln f a b m w (e + 1) (max u (t + 1)) (fv A e t)) I' → K (some (.int (ros (pln f a b m w (e + 1) (max u (t + 1)) (fv A e t))))) (sm_SH n, I', J)) →
      sm_Ok (d + w + 2) 202 0 [.ref 103, .int (nI (e + 1)), .int (nI (max u (t + 1))), .int (nI m), .null, .null, .null] [] (sm_SH n, I1, J) K) : ∀ (r t : Nat), t + r = min (u + 1) m → ∀ (I1 : sm_I) (x5 x6 : Value), x5.category = 1 → x6.category = 1 → (∀ x c, ¬ x = 120 → I1 x c = I x c) → (∀ o, o < e → I1 120 o = oe f A o) →
    (∀ I', (∀ x c, ¬ x = 120 → I' x c = I x c) → flp f D e A (trl (fun t => pln f a b m w (e + 1) (max u (t + 1)) (fv A e t)) (okt f a b A e) r t) I' → K (some (.int (ros (trl (fun t => pln f a b m w (e + 1) (max u (t + 1)) (fv A e t)) (okt f a b A e) r t)))) (sm_SH n, I', J)) →
    sm_Ok (d + w + 3) 202 43 [.ref 103, .int (nI e), .int (nI u), .int (nI m), .int (nI t), x5, x6] [] (sm_SH n, I1, J) K
  | 0, t, ht, I1, x5, x6, k5, k6, f1, f2, hK => by
    have hk := hK I1 f1 f2
    have hD := hb.2.1
    rw [z202_43]
    by_cases h1 : u < t
    · have h1' : nI u < nI t := nI_lt h1 (by omega)
      simp only [z202_45, z202_46, z202_152, z202_153_0, z202_153_1, sm_cti, sm_ctr, sm_ctn, sm_nbi, Option.toList_some, Option.toList_none, List.cons_append, List.nil_append, ne_eq, reduceCtorEq, not_false_eq_true, Nat.reduceLeDiff, h1', if_true, if_false, not_true_eq_false, not_false_eq_true, and_true, true_and, and_false, false_and, and_self, or_true, true_or, or_false, false_or, reduceIte, iff_self, Int32.add_zero, y_10, Classical.not_not]
      exact hk
    · have h1' : ¬ nI u < nI t := nI_nlt (by omega) (by omega)
      have h2' : nI m ≤ nI t := nI_le (by omega) (by omega)
      simp only [z202_45, z202_46, z202_49, z202_51, z202_52, z202_152, z202_153_0, z202_153_1, sm_cti, sm_ctr, sm_ctn, sm_nbi, Option.toList_some, Option.toList_none, List.cons_append, List.nil_append, ne_eq, reduceCtorEq, not_false_eq_true, Nat.reduceLeDiff, h1', h2', if_true, if_false, not_true_eq_false, not_false_eq_true, and_true, true_and, and_false, false_and, and_self, or_true, true_or, or_false, false_or, reduceIte, iff_self, Int32.add_zero, y_10, Classical.not_not]
      exact hk
  | r + 1, t, ht, I1, x5, x6, k5, k6, f1, f2, hK => by
    have hD := hb.2.1
    have htm : t < m := by omega
    have htu : t ≤ u := by omega
    have h1' : ¬ nI u < nI t := nI_nlt (by omega) (by omega)
    have h2' : ¬ nI m ≤ nI t := nI_ge htm (by omega)
    have M1 : mFo P D f a b I1 := mFo_f hM (fun x c hx => f1 x c (by omega))
    have n0 : (0 : Int32) = nI 0 := rfl
    have b1 : (bi true = 0) = False := by decide
    have b2 : (bi false = 0) = True := by decide
    rw [trl_s] at hK
    rw [z202_43]
    simp only [z202_45, z202_46, z202_49, z202_51, z202_52, z202_55, z202_56, z202_58, z202_59, sm_cti, sm_ctr, sm_ctn, sm_nbi, Option.toList_some, Option.toList_none, List.cons_append, List.nil_append, ne_eq, reduceCtorEq, not_false_eq_true, Nat.reduceLeDiff, h1', h2', k5, k6, if_true, if_false, not_true_eq_false, not_false_eq_true, and_true, true_and, and_false, false_and, and_self, or_true, true_or, or_false, false_or, reduceIte, iff_self, Int32.add_zero, y_10, Classical.not_not]
    rw [n0]
    refine (m_fl_o hb M1 he (show t < 12 by omega) hA f2 (nI u) (nI m) (d + w + 1) n J K e 0 (by omega)).mpr ?_
    cases h3 : okt f a b A e t with
    | true =>
      rw [h3, if_pos rfl] at hK
      have hcont : ∀ u', u' = max u (t + 1) → sm_Ok (d + w + 2) 202 0 [.ref 103, .int (nI (e + 1)), .int (nI u'), .int (nI m), .null, .null, .null] [] (sm_SH n, sm_uI I1 120 e (nI t), J) (fun r h1 => sm_Ok (d + w + 3) 202 141 [.ref 103, .int (nI e), .int (nI u), .int (nI m), .int (nI t), .int (bi true), .int (nI e)] (r.toList ++ []) h1 K) := fun u' hu' => by
        subst hu'
        refine H t htm htu _ _ (fun x c hx => by rw [uI_q _ _ hx, f1 x c hx]) (fun o ho => ?_) (fun I2 w1 w2 => ?_)
        · by_cases hoe : o = e
          · subst hoe
            unfold oe
            rw [uI_s, fv_s, if_neg h0]
          · rw [uI_o _ _ (by omega), f2 o (by omega)]
            unfold oe
            rw [fv_o _ hoe]
        · cases hres : pln f a b m w (e + 1) (max u (t + 1)) (fv A e t) with
          | some B =>
            rw [hres] at w2 hK
            dsimp only [ros]
            simp only [z202_141, z202_144, z202_145_0, z202_145_1, sm_cti, sm_ctr, sm_ctn, sm_nbi, Option.toList_some, Option.toList_none, List.cons_append, List.nil_append, ne_eq, reduceCtorEq, not_false_eq_true, Nat.reduceLeDiff, if_true, if_false, not_true_eq_false, not_false_eq_true, and_true, true_and, and_false, false_and, and_self, or_true, true_or, or_false, false_or, reduceIte, iff_self, Int32.add_zero, y_10, Classical.not_not]
            exact hK I2 w1 w2
          | none =>
            rw [hres] at w2 hK
            dsimp only at hK
            dsimp only [ros]
            simp only [z202_141, z202_146, z202_149, sm_cti, sm_ctr, sm_ctn, sm_nbi, Option.toList_some, Option.toList_none, List.cons_append, List.nil_append, ne_eq, reduceCtorEq, not_false_eq_true, Nat.reduceLeDiff, nI_1, if_true, if_false, not_true_eq_false, not_false_eq_true, and_true, true_and, and_false, false_and, and_self, or_true, true_or, or_false, false_or, reduceIte, iff_self, Int32.add_zero, y_10, Classical.not_not]
            refine m_fl_in hb hM hm he hu hA h0 d n J K H r (t + 1) (by omega) I2 _ _ rfl rfl w1 (fun o ho => ?_) hK
            rw [w2 o (by omega)]
            unfold oe
            rw [fv_o _ (by omega)]
      by_cases htu2 : t = u
      · have hq : (nI t = nI u) = True := eq_true (by rw [htu2])
        have := hcont (u + 1) (by omega)
        simp only [z202_107, z202_109, z202_112, z202_113, z202_116, z202_117, z202_119, z202_120, z202_121, z202_122, z202_123, z202_124, z202_126, z202_127, z202_130, z202_131, z202_132, z202_133, z202_137, z202_138, sm_cti, sm_ctr, sm_ctn, sm_nbi, Option.toList_some, Option.toList_none, List.cons_append, List.nil_append, ne_eq, reduceCtorEq, not_false_eq_true, Nat.reduceLeDiff, kc103, kc120, rc103, rf103_31, b1, hq, nI_1, y_inN (show e < 12 by omega) (by decide), nI_clamp (show e < 2 ^ 31 by omega), if_true, if_false, not_true_eq_false, not_false_eq_true, and_true, true_and, and_false, false_and, and_self, or_true, true_or, or_false, false_or, reduceIte, iff_self, Int32.add_zero, y_10, Classical.not_not]
        exact this
      · have hq : (nI t = nI u) = False := eq_false (fun z => htu2 ((nI_eq (by omega) (by omega)).mp z))
        have := hcont u (by omega)
        simp only [z202_107, z202_109, z202_112, z202_113, z202_116, z202_117, z202_119, z202_120, z202_121, z202_122, z202_123, z202_124, z202_126, z202_127, z202_136, z202_137, z202_138, sm_cti, sm_ctr, sm_ctn, sm_nbi, Option.toList_some, Option.toList_none, List.cons_append, List.nil_append, ne_eq, reduceCtorEq, not_false_eq_true, Nat.reduceLeDiff, kc103, kc120, rc103, rf103_31, b1, hq, nI_1, y_inN (show e < 12 by omega) (by decide), nI_clamp (show e < 2 ^ 31 by omega), if_true, if_false, not_true_eq_false, not_false_eq_true, and_true, true_and, and_false, false_and, and_self, or_true, true_or, or_false, false_or, reduceIte, iff_self, Int32.add_zero, y_10, Classical.not_not]
        exact this
    | false =>
      rw [h3, if_neg (by decide)] at hK
      simp only [z202_107, z202_109, z202_146, z202_149, sm_cti, sm_ctr, sm_ctn, sm_nbi, Option.toList_some, Option.toList_none, List.cons_append, List.nil_append, ne_eq, reduceCtorEq, not_false_eq_true, Nat.reduceLeDiff, b2, nI_1, if_true, if_false, not_true_eq_false, not_false_eq_true, and_true, true_and, and_false, false_and, and_self, or_true, true_or, or_false, false_or, reduceIte, iff_self, Int32.add_zero, y_10, Classical.not_not]
      exact m_fl_in hb hM hm he hu hA h0 d n J K H r (t + 1) (by omega) I1 _ _ rfl rfl f1 f2 hK
theorem m_fits {I : sm_I} (hb : bdf P D f a b) (hM : mFo P D f a b I) {m : Nat} (hm : m ≤ 12) (d n : Nat) (J : sm_J) : ∀ (w e u : Nat) (A : Nat → Nat), e + w = D → u ≤ e → (∀ o, A o ≤ 12) → ∀ (I1 : sm_I) (K : Option Value → sm_H → Prop), (∀ x c, ¬ x = 120 → I1 x c = I x c) → (∀ o, o < e → I1 120 o = oe f A o) →
    (∀ I', (∀ x c, ¬ x = 120 → I' x c = I x c) → flp f D e A (pln f a b m w e u A) I' → K (some (.int (ros (pln f a b m w e u A)))) (sm_SH n, I', J)) →
    sm_Ok (d + w + 2) 202 0 [.ref 103, .int (nI e), .int (nI u), .int (nI m), .null, .null, .null] [] (sm_SH n, I1, J) K
  | 0, e, u, A, he, hu, hA, I1, K, f1, f2, hK => by
    have hk : e = D := by omega
    subst hk
    have e7 : I1 103 7 = nI e := by rw [f1 _ _ (by omega), hM.2.1]
    rw [z202_0]
    simp only [z202_1, z202_2, z202_5, z202_8, z202_9_0, z202_9_1, sm_cti, sm_ctr, sm_ctn, sm_nbi, Option.toList_some, Option.toList_none, List.cons_append, List.nil_append, ne_eq, reduceCtorEq, not_false_eq_true, Nat.reduceLeDiff, kc103, e7, if_true, if_false, not_true_eq_false, not_false_eq_true, and_true, true_and, and_false, false_and, and_self, or_true, true_or, or_false, false_or, reduceIte, iff_self, Int32.add_zero, y_10, Classical.not_not]
    exact hK I1 f1 f2
  | w + 1, e, u, A, he, hu, hA, I1, K, f1, f2, hK => by
    have hD := hb.2.1
    have hk : e < D := by omega
    have e7 : I1 103 7 = nI D := by rw [f1 _ _ (by omega), hM.2.1]
    have l : ¬ nI e = nI D := fun z => by have := (nI_eq (a := e) (b := D) (by omega) (by omega)).mp z; omega
    have e3 : I1 104 (40 + e) = nI (f (40 + e)) := by rw [f1 _ _ (by omega), hM.2.2.1 (40 + e) (by omega)]
    have a40 : (40 : Int32) + nI e = nI (40 + e) := nI_add 40 e
    have tl := hb.2.2.1 (40 + e) (by omega)
    have tt := top_le (40 + e)
    have l0 : (nI (f (40 + e)) = 0) = (f (40 + e) = 0) := propext (nI_eq (b := 0) (by omega) (by decide))
    rw [pln_s] at hK
    rw [show d + (w + 1) + 2 = d + w + 2 + 1 by omega]
    by_cases h0 : f (40 + e) = 0
    · have h0' := eq_true h0
      rw [if_pos h0] at hK
      rw [z202_0]
      simp only [z202_1, z202_2, z202_5, z202_10, z202_11, z202_14, z202_16, z202_17, z202_18, z202_19, z202_22, z202_23, z202_26, z202_27, z202_29, z202_30, z202_31, z202_32, z202_33, z202_34, z202_35, z202_36, sm_cti, sm_ctr, sm_ctn, sm_nbi, Option.toList_some, Option.toList_none, List.cons_append, List.nil_append, ne_eq, reduceCtorEq, not_false_eq_true, Nat.reduceLeDiff, kc103, kc104, kc120, rc103, rf103_0, rf103_31, e7, e3, a40, l, l0, h0', nI_1, y_inN (show 40 + e < 54 by omega) (by decide), nI_clamp (show 40 + e < 2 ^ 31 by omega), y_inN (show e < 12 by omega) (by decide), nI_clamp (show e < 2 ^ 31 by omega), if_true, if_false, not_true_eq_false, not_false_eq_true, and_true, true_and, and_false, false_and, and_self, or_true, true_or, or_false, false_or, reduceIte, iff_self, Int32.add_zero, y_10, Classical.not_not]
      refine m_fits hb hM hm d n J w (e + 1) u A (by omega) (by omega) hA _ _ (fun x c hx => by rw [uI_q _ _ hx, f1 x c hx]) (fun o ho => ?_) (fun I2 w1 w2 => ?_)
      · by_cases hoe : o = e
        · subst hoe
          unfold oe
          rw [uI_s, if_pos h0]
        · rw [uI_o _ _ (by omega), f2 o (by omega)]
      · cases hres : pln f a b m w (e + 1) u A with
        | some B =>
          rw [hres] at w2 hK
          dsimp only [ros]
          simp only [z202_39_0, z202_39_1, sm_cti, sm_ctr, sm_ctn, sm_nbi, Option.toList_some, Option.toList_none, List.cons_append, List.nil_append, ne_eq, reduceCtorEq, not_false_eq_true, Nat.reduceLeDiff, if_true, if_false, not_true_eq_false, not_false_eq_true, and_true, true_and, and_false, false_and, and_self, or_true, true_or, or_false, false_or, reduceIte, iff_self, Int32.add_zero, y_10, Classical.not_not]
          exact hK I2 w1 w2
        | none =>
          rw [hres] at w2 hK
          dsimp only [ros]
          simp only [z202_39_0, z202_39_1, sm_cti, sm_ctr, sm_ctn, sm_nbi, Option.toList_some, Option.toList_none, List.cons_append, List.nil_append, ne_eq, reduceCtorEq, not_false_eq_true, Nat.reduceLeDiff, if_true, if_false, not_true_eq_false, not_false_eq_true, and_true, true_and, and_false, false_and, and_self, or_true, true_or, or_false, false_or, reduceIte, iff_self, Int32.add_zero, y_10, Classical.not_not]
          exact hK I2 w1 (fun o ho => w2 o (by omega))
    · rw [if_neg h0] at hK
      have n0 : (0 : Int32) = nI 0 := rfl
      rw [z202_0]
      simp only [z202_1, z202_2, z202_5, z202_10, z202_11, z202_14, z202_16, z202_17, z202_18, z202_19, z202_40, z202_41, sm_cti, sm_ctr, sm_ctn, sm_nbi, Option.toList_some, Option.toList_none, List.cons_append, List.nil_append, ne_eq, reduceCtorEq, not_false_eq_true, Nat.reduceLeDiff, kc103, kc104, rf103_0, e7, e3, a40, l, l0, h0, y_inN (show 40 + e < 54 by omega) (by decide), nI_clamp (show 40 + e < 2 ^ 31 by omega), if_true, if_false, not_true_eq_false, not_false_eq_true, and_true, true_and, and_false, false_and, and_self, or_true, true_or, or_false, false_or, reduceIte, iff_self, Int32.add_zero, y_10, Classical.not_not]
      rw [n0]
      refine m_fl_in hb hM hm hk hu hA h0 d n J K (fun t ht htu I2 K2 g1 g2 hK2 => ?_) (min (u + 1) m) 0 (by omega) I1 .null .null rfl rfl f1 f2 hK
      exact m_fits hb hM hm d n J w (e + 1) (max u (t + 1)) (fv A e t) (by omega) (by omega) (fun o => by
        by_cases hoe : o = e
        · subst hoe
          rw [fv_s]
          omega
        · rw [fv_o _ hoe]
          exact hA o) I2 K2 g1 g2 hK2
theorem m_la_lp {I : sm_I} (hb : bdf P D f a b) (hM : mFo P D f a b I) {ms : Nat} {B : Nat → Nat} (hms : ms ≤ 12) (hB : pln f a b ms D 0 0 (fun _ => 0) = some B) (hmin : ∀ m, m < ms → pln f a b m D 0 0 (fun _ => 0) = none) (x : Int32) (d n : Nat) (J : sm_J) (K : Option Value → sm_H → Prop)
    (hK : ∀ I', (∀ x c, ¬ x = 120 → I' x c = I x c) → (∀ o, o < D → I' 120 o = oe f B o) → sm_Ok (d + D + 3) 203 38 [.ref 103, .int x, .int (nI ms)] [] (sm_SH n, I', J) K) : ∀ (w k : Nat), k + w = ms → ∀ I1 : sm_I, (∀ x c, ¬ x = 120 → I1 x c = I x c) →
    sm_Ok (d + D + 3) 203 22 [.ref 103, .int x, .int (nI k)] [] (sm_SH n, I1, J) K
  | 0, k, h, I1, f1 => by
    have hk : k = ms := by omega
    subst hk
    have n0 : (0 : Int32) = nI 0 := rfl
    rw [z203_22]
    simp only [z203_23, z203_24, z203_25, z203_26, sm_cti, sm_ctr, sm_ctn, sm_nbi, Option.toList_some, Option.toList_none, List.cons_append, List.nil_append, ne_eq, reduceCtorEq, not_false_eq_true, Nat.reduceLeDiff, rc103, if_true, if_false, not_true_eq_false, not_false_eq_true, and_true, true_and, and_false, false_and, and_self, or_true, true_or, or_false, false_or, reduceIte, iff_self, Int32.add_zero, y_10, Classical.not_not]
    rw [n0]
    refine m_fits hb hM hms d n J D 0 0 (fun _ => 0) (by omega) (Nat.le_refl _) (fun _ => Nat.zero_le _) I1 _ f1 (fun o ho => absurd ho (Nat.not_lt_zero _)) (fun I2 w1 w2 => ?_)
    rw [hB] at w2 ⊢
    dsimp only [ros]
    simp only [z203_29, sm_cti, sm_ctr, sm_ctn, sm_nbi, Option.toList_some, Option.toList_none, List.cons_append, List.nil_append, ne_eq, reduceCtorEq, not_false_eq_true, Nat.reduceLeDiff, if_true, if_false, not_true_eq_false, not_false_eq_true, and_true, true_and, and_false, false_and, and_self, or_true, true_or, or_false, false_or, reduceIte, iff_self, Int32.add_zero, y_10, Classical.not_not]
    exact hK I2 w1 w2
  | w + 1, k, h, I1, f1 => by
    have n0 : (0 : Int32) = nI 0 := rfl
    have hN := hmin k (by omega)
    rw [z203_22]
    simp only [z203_23, z203_24, z203_25, z203_26, sm_cti, sm_ctr, sm_ctn, sm_nbi, Option.toList_some, Option.toList_none, List.cons_append, List.nil_append, ne_eq, reduceCtorEq, not_false_eq_true, Nat.reduceLeDiff, rc103, if_true, if_false, not_true_eq_false, not_false_eq_true, and_true, true_and, and_false, false_and, and_self, or_true, true_or, or_false, false_or, reduceIte, iff_self, Int32.add_zero, y_10, Classical.not_not]
    rw [n0]
    refine m_fits hb hM (show k ≤ 12 by omega) d n J D 0 0 (fun _ => 0) (by omega) (Nat.le_refl _) (fun _ => Nat.zero_le _) I1 _ f1 (fun o ho => absurd ho (Nat.not_lt_zero _)) (fun I2 w1 w2 => ?_)
    rw [hN] at w2 ⊢
    dsimp only [ros]
    simp only [z203_29, z203_32, z203_35, sm_cti, sm_ctr, sm_ctn, sm_nbi, Option.toList_some, Option.toList_none, List.cons_append, List.nil_append, ne_eq, reduceCtorEq, not_false_eq_true, Nat.reduceLeDiff, nI_1, if_true, if_false, not_true_eq_false, not_false_eq_true, and_true, true_and, and_false, false_and, and_self, or_true, true_or, or_false, false_or, reduceIte, iff_self, Int32.add_zero, y_10, Classical.not_not]
    exact m_la_lp hb hM hms hB hmin x d n J K hK w (k + 1) (by omega) I2 w1
end
theorem pw_lane {n : Nat} {xs : Nat → Int32} {I : sm_I} {J : sm_J} (hI : Inv xs I J) (x : Int32) : pw n I J 101 [.ref 26, .int x, .null] 203 [.ref 103, .int x, .null] (fun I2 J2 => Inv xs I2 J2) := by
  obtain ⟨P, D, B, i1, i2, i3, i4, i5, i6, i7, i8⟩ := id hI
  obtain ⟨f, a, b, hb, cF, cT, mF, hz⟩ := fo_pure i2
  have hD := hb.2.1
  have hp := p2_le hD
  have n0 : (0 : Int32) = nI 0 := rfl
  obtain ⟨ms, hms, ⟨B', hB⟩, hmin⟩ := pln_min 12 (lane_ex (f := f) (a := a) (b := b) hD)
  have hL := lane_ge hD hB
  have pr1 : ∀ y : Int32, (y ≤ nI D - 1) = (y < nI D) := fun y => y_pred (show D < 2 ^ 31 by omega)
  have y_wid1 : ∀ y : Int32, ((-1 : Int64) ≤ y.toInt64) = (-1 ≤ y) := fun y => y_wm1 y
  -- the reference's run
  have ref : ∀ (d : Nat) (I1 : sm_I) (K2 : Option Value → sm_H → Prop), mFo P D f a b I1 → (-1 ≤ x ∧ x < nI D) → (∀ I', (∀ x c, ¬ x = 120 → I' x c = I1 x c) → (∀ o, o < D → I' 120 o = oe f B' o) → sm_Ok (d + 200) 203 38 [.ref 103, .int x, .int (nI ms)] [] (sm_SH n, I', J) K2) → sm_Ok (d + 200) 203 0 [.ref 103, .int x, .null] [] (sm_SH n, I1, J) K2 := fun d I1 K2 M1 hx hK2 => by
    obtain ⟨d0, hd⟩ : ∃ d0, d + 200 = d0 + D + 3 := ⟨d + 197 - D, by omega⟩
    rw [z203_0]
    simp only [z203_1, z203_2, z203_5, z203_6, z203_9, z203_10, z203_11, z203_12, z203_15, z203_20, z203_21, sm_cti, sm_ctr, sm_ctn, sm_nbi, Option.toList_some, Option.toList_none, List.cons_append, List.nil_append, ne_eq, reduceCtorEq, not_false_eq_true, Nat.reduceLeDiff, kc103, M1.2.1, m_within, y_wid1, y_wid, pr1, y_bit, hx, if_true, if_false, not_true_eq_false, not_false_eq_true, and_true, true_and, and_false, false_and, and_self, or_true, true_or, or_false, false_or, reduceIte, iff_self, Int32.add_zero, y_10, Classical.not_not]
    rw [n0]
    rw [hd] at hK2 ⊢
    exact m_la_lp hb M1 hms hB hmin x d0 n J K2 hK2 ms 0 (by omega) I1 (fun _ _ _ => rfl)
  -- the class's run
  have cls0 : ∀ (d : Nat) (K : Option Value → sm_H → Prop), (x = -1 ∨ ∃ k, k < D ∧ x = nI k ∧ ¬ f (40 + k) = 0) → (∀ I', (∀ x c, ¬ (80 ≤ x ∧ x < 84) → I' x c = I x c) → (∀ o, o < D → ¬ f (40 + o) = 0 → I' 81 o = nI (B' o)) → sm_Ok (d + 200) 101 56 [.ref 26, .int x, .null] [.int (nI ms)] (sm_SH n, I', J) K) → sm_Ok (d + 200) 101 38 [.ref 26, .int x, .null] [] (sm_SH n, I, J) K := fun d K hx hK => by
    obtain ⟨d0, hd⟩ : ∃ d0, d + 199 = d0 + D + 1 := ⟨d + 198 - D, by omega⟩
    simp only [z101_38, z101_39, z101_42, z101_43, z101_46, sm_cti, sm_ctr, sm_ctn, sm_nbi, Option.toList_some, Option.toList_none, List.cons_append, List.nil_append, ne_eq, reduceCtorEq, not_false_eq_true, Nat.reduceLeDiff, kc26, rc80, rf26_3, rf26_9, if_true, if_false, not_true_eq_false, not_false_eq_true, and_true, true_and, and_false, false_and, and_self, or_true, true_or, or_false, false_or, reduceIte, iff_self, Int32.add_zero, y_10, Classical.not_not]
    refine c_look hb cF cT (d + 197) n J _ (fun I1 w1 w2 w3 => ?_)
    have F1 : cFo P D f a b I1 := cFo_f cF (fun x c h1 h2 => w1 x c (by omega))
    simp only [z101_49, z101_50, z101_53, z81_0, z81_1, z81_4, z81_5, sm_cti, sm_ctr, sm_ctn, sm_nbi, Option.toList_some, Option.toList_none, List.cons_append, List.nil_append, ne_eq, reduceCtorEq, not_false_eq_true, Nat.reduceLeDiff, kc26, kc80, rc80, rf26_9, rf80_3, if_true, if_false, not_true_eq_false, not_false_eq_true, and_true, true_and, and_false, false_and, and_self, or_true, true_or, or_false, false_or, reduceIte, iff_self, Int32.add_zero, y_10, Classical.not_not]
    refine c_fill83 _ n J _ (fun I2 v1 v2 => ?_)
    have e7 : I2 34 7 = nI D := by rw [v1 _ _ (by omega), F1.2.1]
    have e4 : I2 80 4 = ow f D := by rw [v1 _ _ (by omega), w2]
    have ec : ∀ j, j < D → I2 82 j = cls f a b j D := fun j hj => by rw [v1 _ _ (by omega), w3 j hj]
    have hcr : crd (okc (ow f D) (fun e => cls f a b e D) D) (2 ^ D) = crd (okm f a b (ow f D) D) (2 ^ D) := crd_congr (fun s hs => ok_eq hD (by omega))
    have hl2 : crd (okc (ow f D) (fun e => cls f a b e D) D) (2 ^ D) < 4096 := by
      have := crd_lt (okc (ow f D) (fun e => cls f a b e D) D) (p2_pos D)
      omega
    simp only [z81_8, z81_9, z81_12, z81_15, sm_cti, sm_ctr, sm_ctn, sm_nbi, Option.toList_some, Option.toList_none, List.cons_append, List.nil_append, ne_eq, reduceCtorEq, not_false_eq_true, Nat.reduceLeDiff, rc80, c_largest hD e7 e4 ec, y_bitCount hl2, if_true, if_false, not_true_eq_false, not_false_eq_true, and_true, true_and, and_false, false_and, and_self, or_true, true_or, or_false, false_or, reduceIte, iff_self, Int32.add_zero, y_10, Classical.not_not]
    rw [hcr]
    rw [show d + 198 + 1 = d0 + D + 1 by omega]
    refine c_pa_lp hD e7 e4 ec hms hB hmin d0 n J _ (fun I3 u1 u2 => ?_) (ms - pc (crd (okm f a b (ow f D) D) (2 ^ D))) _ (by omega) I2 (fun _ _ _ => rfl) v2
    simp only [sm_cti, sm_ctr, sm_ctn, sm_nbi, Option.toList_some, Option.toList_none, List.cons_append, List.nil_append, ne_eq, reduceCtorEq, not_false_eq_true, Nat.reduceLeDiff]
    rw [show d0 + D + 1 + 1 = d + 200 by omega]
    exact hK I3 (fun x c hx => by rw [u1 _ _ (by omega), v1 _ _ (by omega), w1 _ _ (by omega)]) u2
  intro d K hK
  by_cases hx1 : x = -1
  · subst hx1
    have hr : (-1 : Int32) ≤ -1 ∧ (-1 : Int32) < nI D := ⟨by decide, Int32.lt_of_lt_of_le (show (-1 : Int32) < 0 by decide) (nI_pos' (by omega))⟩
    have l : ¬ (0 : Int32) ≤ -1 := by decide
    rw [z101_0]
    simp only [z101_1, z101_2, z101_18, z101_19, z101_20, sm_cti, sm_ctr, sm_ctn, sm_nbi, Option.toList_some, Option.toList_none, List.cons_append, List.nil_append, ne_eq, reduceCtorEq, not_false_eq_true, Nat.reduceLeDiff, if_true, if_false, not_true_eq_false, not_false_eq_true, and_true, true_and, and_false, false_and, and_self, or_true, true_or, or_false, false_or, reduceIte, iff_self, Int32.add_zero, y_10, Classical.not_not]
    refine cls0 d K (Or.inl rfl) (fun I1 w1 w2 => ?_)
    simp only [z101_56, z101_57, z101_58, z101_59, z101_62, z101_63, z101_75, sm_cti, sm_ctr, sm_ctn, sm_nbi, Option.toList_some, Option.toList_none, List.cons_append, List.nil_append, ne_eq, reduceCtorEq, not_false_eq_true, Nat.reduceLeDiff, if_true, if_false, not_true_eq_false, not_false_eq_true, and_true, true_and, and_false, false_and, and_self, or_true, true_or, or_false, false_or, reduceIte, iff_self, Int32.add_zero, y_10, Classical.not_not]
    refine hK _ I1 J (fun K2 h3 => ref d I1 K2 (mFo_f mF (fun x c hx => w1 x c (by omega))) hr (fun I2 v1 v2 => ?_))
    simp only [z203_38, z203_39, z203_42, z203_43, z203_52, sm_cti, sm_ctr, sm_ctn, sm_nbi, Option.toList_some, Option.toList_none, List.cons_append, List.nil_append, ne_eq, reduceCtorEq, not_false_eq_true, Nat.reduceLeDiff, l, if_true, if_false, not_true_eq_false, not_false_eq_true, and_true, true_and, and_false, false_and, and_self, or_true, true_or, or_false, false_or, reduceIte, iff_self, Int32.add_zero, y_10, Classical.not_not]
    exact h3 I2 J (Inv_0 hI (ag0 (fun x c hx => by rw [v1 _ _ (by omega), w1 _ _ (by omega)])))
  · by_cases hx : 0 ≤ x ∧ x < nI D
    · obtain ⟨k, hk, rfl⟩ := y_idx (show D < 2 ^ 31 by omega) hx
      have hr : (-1 : Int32) ≤ nI k ∧ nI k < nI D := ⟨Int32.le_trans (by decide) hx.1, hx.2⟩
      have e3 : I 43 k = nI (f (40 + k)) := cT.2.1 k (by omega)
      have tl := hb.2.2.1 (40 + k) (by omega)
      have tt := top_le (40 + k)
      have l0 : (nI (f (40 + k)) = 0) = (f (40 + k) = 0) := propext (nI_eq (b := 0) (by omega) (by decide))
      by_cases h0 : f (40 + k) = 0
      · have h0' := eq_true h0
        rw [z101_0]
        simp only [z101_1, z101_2, z101_5, z101_6, z101_9, z101_10, z101_13, z101_18, z101_19, z101_20, z101_23, z101_24, z101_27, z101_30, z101_31, z101_32, z101_35, z101_37, sm_cti, sm_ctr, sm_ctn, sm_nbi, Option.toList_some, Option.toList_none, List.cons_append, List.nil_append, ne_eq, reduceCtorEq, not_false_eq_true, Nat.reduceLeDiff, kc26, kc40, kc43, rc34, rf26_2, rf26_3, rf40_2, hx1, y_isDebt, cF.2.1, y_bit, hx, e3, l0, h0', y_inN (show k < 12 by omega) (by decide), nI_clamp (show k < 2 ^ 31 by omega), if_true, if_false, not_true_eq_false, not_false_eq_true, and_true, true_and, and_false, false_and, and_self, or_true, true_or, or_false, false_or, reduceIte, iff_self, Int32.add_zero, y_10, Classical.not_not]
        refine hK _ I J (fun K2 h3 => ref d I K2 mF hr (fun I2 v1 v2 => ?_))
        have e120 : I2 120 k = -2 := by
          rw [v2 k hk]
          unfold oe
          rw [if_pos h0]
        simp only [z203_38, z203_39, z203_46, z203_47, z203_50, z203_51, z203_52, sm_cti, sm_ctr, sm_ctn, sm_nbi, Option.toList_some, Option.toList_none, List.cons_append, List.nil_append, ne_eq, reduceCtorEq, not_false_eq_true, Nat.reduceLeDiff, kc103, kc120, rf103_31, hx.1, e120, y_inN (show k < 12 by omega) (by decide), nI_clamp (show k < 2 ^ 31 by omega), if_true, if_false, not_true_eq_false, not_false_eq_true, and_true, true_and, and_false, false_and, and_self, or_true, true_or, or_false, false_or, reduceIte, iff_self, Int32.add_zero, y_10, Classical.not_not]
        exact h3 I2 J (Inv_0 hI (ag0 (fun x c hx => by rw [v1 _ _ (by omega)])))
      · rw [z101_0]
        simp only [z101_1, z101_2, z101_5, z101_6, z101_9, z101_10, z101_13, z101_18, z101_19, z101_20, z101_23, z101_24, z101_27, z101_30, z101_31, z101_32, sm_cti, sm_ctr, sm_ctn, sm_nbi, Option.toList_some, Option.toList_none, List.cons_append, List.nil_append, ne_eq, reduceCtorEq, not_false_eq_true, Nat.reduceLeDiff, kc26, kc40, kc43, rc34, rf26_2, rf26_3, rf40_2, hx1, y_isDebt, cF.2.1, y_bit, hx, e3, l0, h0, y_inN (show k < 12 by omega) (by decide), nI_clamp (show k < 2 ^ 31 by omega), if_true, if_false, not_true_eq_false, not_false_eq_true, and_true, true_and, and_false, false_and, and_self, or_true, true_or, or_false, false_or, reduceIte, iff_self, Int32.add_zero, y_10, Classical.not_not]
        refine cls0 d K (Or.inr ⟨k, hk, rfl, h0⟩) (fun I1 w1 w2 => ?_)
        have e81 := w2 k hk h0
        simp only [z101_56, z101_57, z101_58, z101_59, z101_66, z101_67, z101_70, z101_73, z101_74, z101_75, sm_cti, sm_ctr, sm_ctn, sm_nbi, Option.toList_some, Option.toList_none, List.cons_append, List.nil_append, ne_eq, reduceCtorEq, not_false_eq_true, Nat.reduceLeDiff, kc26, kc80, kc81, rf26_9, rf80_0, hx1, e81, y_inN (show k < 12 by omega) (by decide), nI_clamp (show k < 2 ^ 31 by omega), if_true, if_false, not_true_eq_false, not_false_eq_true, and_true, true_and, and_false, false_and, and_self, or_true, true_or, or_false, false_or, reduceIte, iff_self, Int32.add_zero, y_10, Classical.not_not]
        refine hK _ I1 J (fun K2 h3 => ref d I1 K2 (mFo_f mF (fun x c hx => w1 x c (by omega))) hr (fun I2 v1 v2 => ?_))
        have e120 : I2 120 k = nI (B' k) := by
          rw [v2 k hk]
          unfold oe
          rw [if_neg h0]
        simp only [z203_38, z203_39, z203_46, z203_47, z203_50, z203_51, z203_52, sm_cti, sm_ctr, sm_ctn, sm_nbi, Option.toList_some, Option.toList_none, List.cons_append, List.nil_append, ne_eq, reduceCtorEq, not_false_eq_true, Nat.reduceLeDiff, kc103, kc120, rf103_31, hx.1, e120, y_inN (show k < 12 by omega) (by decide), nI_clamp (show k < 2 ^ 31 by omega), if_true, if_false, not_true_eq_false, not_false_eq_true, and_true, true_and, and_false, false_and, and_self, or_true, true_or, or_false, false_or, reduceIte, iff_self, Int32.add_zero, y_10, Classical.not_not]
        exact h3 I2 J (Inv_0 hI (ag0 (fun x c hx => by rw [v1 _ _ (by omega), w1 _ _ (by omega)])))
    · have hr : ¬ ((-1 : Int32) ≤ x ∧ x < nI D) := fun z => by
        refine hx ⟨?_, z.2⟩
        have h1 := z.1
        rw [Int32.le_iff_toInt_le] at h1 ⊢
        have e1 : (-1 : Int32).toInt = -1 := by decide
        have e2 : (0 : Int32).toInt = 0 := by decide
        have e3 : x.toInt ≠ -1 := fun z => hx1 (Int32.toInt_inj.mp (by rw [z, e1]))
        omega
      rw [z101_0]
      simp only [z101_1, z101_2, z101_5, z101_6, z101_9, z101_10, z101_13, z101_16, z101_17, sm_cti, sm_ctr, sm_ctn, sm_nbi, Option.toList_some, Option.toList_none, List.cons_append, List.nil_append, ne_eq, reduceCtorEq, not_false_eq_true, Nat.reduceLeDiff, kc26, rc34, rf26_2, hx1, y_isDebt, cF.2.1, y_bit, hx, if_true, if_false, not_true_eq_false, not_false_eq_true, and_true, true_and, and_false, false_and, and_self, or_true, true_or, or_false, false_or, reduceIte, iff_self, Int32.add_zero, y_10, Classical.not_not]
      refine hK _ I J (fun K2 h3 => ?_)
      rw [z203_0]
      simp only [z203_1, z203_2, z203_5, z203_6, z203_9, z203_10, z203_11, z203_12, z203_15, z203_18, z203_19, sm_cti, sm_ctr, sm_ctn, sm_nbi, Option.toList_some, Option.toList_none, List.cons_append, List.nil_append, ne_eq, reduceCtorEq, not_false_eq_true, Nat.reduceLeDiff, kc103, mF.2.1, m_within, y_wid1, y_wid, pr1, y_bit, hr, if_true, if_false, not_true_eq_false, not_false_eq_true, and_true, true_and, and_false, false_and, and_self, or_true, true_or, or_false, false_or, reduceIte, iff_self, Int32.add_zero, y_10, Classical.not_not]
      exact h3 I J hI
