/-! both answer alike: best -/
section
variable {P D : Nat} {f a b : Nat → Nat} {lo : Option ((Nat → Nat) × Nat)}
theorem so_ok (hD : D ≤ 12) (j : Nat) : so D j < D ∨ so D j = 12 := by
  unfold so
  split
  · exact Or.inl (by omega)
  · exact Or.inr rfl
theorem so_le (hD : D ≤ 12) (j : Nat) : so D j ≤ 12 := by
  have := so_ok hD j
  omega
/-- what the search may change from a night on -/
def fr9 (k : Nat) (I I' : sm_I) : Prop := ∀ x c, ¬ (x = 29 ∨ x = 30 ∨ (x = 60 ∧ c = 1) ∨ x = 61 ∨ (x = 63 ∧ k ≤ c) ∨ (64 + 4 * (k + 1) ≤ x ∧ x < 80)) → I' x c = I x c
theorem fr9_t {k : Nat} {I I1 I2 : sm_I} (h1 : fr9 k I I1) (h2 : fr9 k I1 I2) : fr9 k I I2 := fun x c hx => by rw [h2 x c hx, h1 x c hx]
theorem c_ty_lp (hb : bdf P D f a b) {k w t : Nat} (ht : k + (w + 1) = t) (ht4 : t ≤ 4) {pr : Nat → Nat} {I : sm_I} (hF : cFo P D f a b I) (hL : cLw lo I) (hT : cTa (64 + 4 * k) (rnt P D f a b lo pr f k) I) (htr : ∀ j, j < k → I 63 j = nI (pr j)) (d n : Nat) (J : sm_J) (K : Option Value → sm_H → Prop)
    (H : ∀ (e : Nat) (σ : SG) (I1 : sm_I) (K : Option Value → sm_H → Prop), (e < D ∨ e = 12) → bS σ → 0 < w → cFo P D f a b I1 → cLw lo I1 → cTa (64 + 4 * (k + 1)) (rnt P D f a b lo (fv pr k e) f (k + 1)) I1 → (∀ j, j < k + 1 → I1 63 j = nI (fv pr k e j)) → I1 60 1 = mo σ → bR t 61 σ I1 →
      (∀ I', fr9 (k + 1) I1 I' → I' 60 1 = mo (fsr P D f a b lo w (k + 1) (fv pr k e) σ) → bR t 61 (fsr P D f a b lo w (k + 1) (fv pr k e) σ) I' → K none (sm_SH n, I', J)) →
      sm_Ok (d + w + 5) 59 0 [.ref 60, .int (nI (k + 1)), .int (nI t), .int (nI (rps P D f a b lo (fv pr k e) f (k + 1))), .null, .null, .null, .null, .null] [] (sm_SH n, I1, J) K) : ∀ (r j : Nat), j + r = D + 1 → ∀ (σ : SG) (I1 : sm_I) (x6 x7 x8 : Value), x6.category = 1 → x7.category = 1 → x8.category = 1 → bS σ → fr9 k I I1 → I1 60 1 = mo σ → bR t 61 σ I1 →
    (∀ I', fr9 k I I' → I' 60 1 = mo (fldS (fun j σ => fsr P D f a b lo w (k + 1) (fv pr k (so D j)) σ) r j σ) → bR t 61 (fldS (fun j σ => fsr P D f a b lo w (k + 1) (fv pr k (so D j)) σ) r j σ) I' → K none (sm_SH n, I', J)) →
    sm_Ok (d + w + 6) 59 17 [.ref 60, .int (nI k), .int (nI t), .int (nI (rps P D f a b lo pr f k)), .int (if w = 0 then 1 else 0), .int (nI j), x6, x7, x8] [] (sm_SH n, I1, J) K
  | 0, j, hj, σ, I1, x6, x7, x8, c6, c7, c8, hσ, w1, hm, hr, hK => by
    have hD := hb.2.1
    have e7 : I1 34 7 = nI D := by rw [w1 _ _ (by omega), hF.2.1]
    have l : nI D < nI j := nI_lt (by omega) (by omega)
    rw [z59_17]
    simp only [z59_19, z59_20, z59_23, z59_26, z59_148, sm_cti, sm_ctr, sm_ctn, sm_nbi, Option.toList_some, Option.toList_none, List.cons_append, List.nil_append, ne_eq, reduceCtorEq, not_false_eq_true, Nat.reduceLeDiff, kc34, kc60, rf60_2, e7, l, if_true, if_false, not_true_eq_false, not_false_eq_true, and_true, true_and, and_false, false_and, and_self, or_true, true_or, or_false, false_or, reduceIte, iff_self, Int32.add_zero, y_10, Classical.not_not]
    exact hK I1 w1 hm hr
  | r + 1, j, hj, σ, I1, x6, x7, x8, c6, c7, c8, hσ, w1, hm, hr, hK => by
    have hD := hb.2.1
    have hg : bdg f := fun k k1 k2 k3 => hb.2.2.1 k k2
    have e7 : I1 34 7 = nI D := by rw [w1 _ _ (by omega), hF.2.1]
    have l : ¬ nI D < nI j := nI_nlt (by omega) (by omega)
    have hp := rps_le (P := P) (D := D) (f := f) (a := a) (b := b) (lo := lo) pr f k
    have e1 : nI t - nI k = nI (t - k) := nI_sub (by omega)
    have e2 : (9 : Int32) * nI (t - k) = nI (9 * (t - k)) := nI_mul 9 _
    have e3 : nI (rps P D f a b lo pr f k) + nI (9 * (t - k)) = nI (rps P D f a b lo pr f k + 9 * (t - k)) := nI_add _ _
    rw [z59_17]
    by_cases hd : dead σ (rps P D f a b lo pr f k + 9 * (t - k))
    · have hd' : ¬ mo σ < nI (rps P D f a b lo pr f k + 9 * (t - k)) := fun z => (mo_lt hσ (by omega)).mp z hd
      rw [fldS_id (fun j => fsr_dead (by
        rw [rn_s.2]
        have := (pay_le (P := P) (D := D) (f := f) (a := a) (b := b) lo (rnt P D f a b lo pr f k) (so D j)).1
        exact dead_le hd (by omega)))] at hK
      simp only [z59_19, z59_20, z59_23, z59_26, z59_29, z59_30, z59_32, z59_33, z59_34, z59_35, z59_36, z59_37, z59_38, z59_41, z59_44, sm_cti, sm_ctr, sm_ctn, sm_nbi, Option.toList_some, Option.toList_none, List.cons_append, List.nil_append, ne_eq, reduceCtorEq, not_false_eq_true, Nat.reduceLeDiff, kc34, kc60, rf60_2, e7, l, e1, e2, e3, hm, hd', if_true, if_false, not_true_eq_false, not_false_eq_true, and_true, true_and, and_false, false_and, and_self, or_true, true_or, or_false, false_or, reduceIte, iff_self, Int32.add_zero, y_10, Classical.not_not]
      exact hK I1 w1 hm hr
    · have hd' : mo σ < nI (rps P D f a b lo pr f k + 9 * (t - k)) := (mo_lt hσ (by omega)).mpr hd
      rw [fldS_s] at hK
      have hso := so_ok hD j
      have hsl := so_le hD j
      -- the song is written down
      have F1 : ∀ v, cFo P D f a b (sm_uI I1 63 k v) := fun v => cFo_f hF (fun x c h1 h2 => by rw [uI_q _ _ (by omega), w1 _ _ (by omega)])
      have L1 : ∀ v, cLw lo (sm_uI I1 63 k v) := fun v => cLw_f hL (fun x c h1 h2 => by rw [uI_q _ _ (by omega), w1 _ _ (by omega)])
      have T1 : ∀ v, cTa (64 + 4 * k) (rnt P D f a b lo pr f k) (sm_uI I1 63 k v) := fun v => cTa_f hT (fun x c h1 h2 => by rw [uI_q _ _ (by omega), w1 _ _ (by omega)])
      have m1 : ∀ v, sm_uI I1 63 k v 60 1 = mo σ := fun v => by rw [uI_q _ _ (by omega), hm]
      have r1 : ∀ v, bR t 61 σ (sm_uI I1 63 k v) := fun v => by
        cases σ with
        | none => exact trivial
        | some mc => exact fun i hi => by rw [uI_q _ _ (by omega)]; exact hr i hi
      have t1 : ∀ i, i < k + 1 → sm_uI I1 63 k (nI (so D j)) 63 i = nI (fv pr k (so D j) i) := fun i hi => by
        by_cases hik : i = k
        · subst hik
          rw [uI_s, fv_s]
        · rw [uI_o _ _ (by omega), w1 _ _ (by omega), htr i (by omega), fv_o _ hik]
      have fu : ∀ v, fr9 k I (sm_uI I1 63 k v) := fun v x c hx => by rw [uI_o _ _ (by omega), w1 x c hx]
      have goal2 : sm_Ok (d + w + 6) 59 64 [.ref 60, .int (nI k), .int (nI t), .int (nI (rps P D f a b lo pr f k)), .int (if w = 0 then 1 else 0), .int (nI j), x6, x7, x8] [.int (nI (so D j))] (sm_SH n, I1, J) K := by
        by_cases hw : w = 0
        · subst hw
          have htk : t = k + 1 := by omega
          subst htk
          rw [if_pos rfl]
          simp only [z59_64, z59_66, z59_67, z59_70, z59_71, z59_73, z59_74, z59_76, z59_79, z59_80, z59_81, z59_84, z59_85, z59_86, z59_88, z59_89, z59_90, sm_cti, sm_ctr, sm_ctn, sm_nbi, Option.toList_some, Option.toList_none, List.cons_append, List.nil_append, ne_eq, reduceCtorEq, not_false_eq_true, Nat.reduceLeDiff, kc60, kc63, rc60, rf60_3, rf60_4, c6, y_inN (show k < 4 by omega) (by decide), nI_clamp (show k < 2 ^ 31 by omega), if_true, if_false, not_true_eq_false, not_false_eq_true, and_true, true_and, and_false, false_and, and_self, or_true, true_or, or_false, false_or, reduceIte, iff_self, Int32.add_zero, y_10, Classical.not_not]
          refine c_end hb (F1 _) (L1 _) (show k < 4 by omega) (T1 _) hso t1 hσ (m1 _) (r1 _) d n J _ (fun I2 v1 v2 v3 => ?_)
          simp only [z59_93, z59_142, z59_145, sm_cti, sm_ctr, sm_ctn, sm_nbi, Option.toList_some, Option.toList_none, List.cons_append, List.nil_append, ne_eq, reduceCtorEq, not_false_eq_true, Nat.reduceLeDiff, nI_1, if_true, if_false, not_true_eq_false, not_false_eq_true, and_true, true_and, and_false, false_and, and_self, or_true, true_or, or_false, false_or, reduceIte, iff_self, Int32.add_zero, y_10, Classical.not_not]
          have hrc := c_ty_lp hb ht ht4 hF hL hT htr d n J K H r (j + 1) (by omega) (fsr P D f a b lo 0 (k + 1) (fv pr k (so D j)) σ) I2 (.int (nI (so D j))) x7 x8 rfl c7 c8 (fsr_bS (by omega) hσ) (fr9_t (fu _) (fun x c hx => v1 x c (by omega))) v2 v3 hK
          rw [if_pos rfl] at hrc
          exact hrc
        · rw [if_neg hw]
          have q4 : 64 + 4 * (k + 1) = 64 + 4 * k + 4 := by omega
          obtain ⟨l1, -⟩ := tq_k (tq_n (show k + 1 < 4 by omega))
          simp only [z59_64, z59_66, z59_67, z59_70, z59_71, z59_73, z59_74, z59_76, z59_96, z59_97, z59_100, z59_101, z59_102, z59_103, z59_104, z59_106, z59_108, z59_109, z59_112, z59_113, z59_114, sm_cti, sm_ctr, sm_ctn, sm_nbi, Option.toList_some, Option.toList_none, List.cons_append, List.nil_append, ne_eq, reduceCtorEq, not_false_eq_true, Nat.reduceLeDiff, kc60, kc63, rc60, rf60_3, rf60_4, c6, c7, nI_1, sm_rc_of l1, y_inN (show k < 4 by omega) (by decide), nI_clamp (show k < 2 ^ 31 by omega), y_inN (show k + 1 < 4 by omega) (by decide), nI_clamp (show k + 1 < 2 ^ 31 by omega), if_true, if_false, not_true_eq_false, not_false_eq_true, and_true, true_and, and_false, false_and, and_self, or_true, true_or, or_false, false_or, reduceIte, iff_self, Int32.add_zero, y_10, Classical.not_not]
          refine c_bec (q := 64 + 4 * k) (r := 64 + 4 * (k + 1)) (tq_n (by omega)) (tq_n (by omega)) (by omega) (T1 _) (d + w + 4) n J _ (fun I2 v1 v2 => ?_)
          simp only [z59_117, z59_118, z59_121, z59_123, z59_125, sm_cti, sm_ctr, sm_ctn, sm_nbi, Option.toList_some, Option.toList_none, List.cons_append, List.nil_append, ne_eq, reduceCtorEq, not_false_eq_true, Nat.reduceLeDiff, kc60, rc34, rf60_2, if_true, if_false, not_true_eq_false, not_false_eq_true, and_true, true_and, and_false, false_and, and_self, or_true, true_or, or_false, false_or, reduceIte, iff_self, Int32.add_zero, y_10, Classical.not_not]
          refine c_pass hb (cFo_f (F1 (nI (so D j))) (fun x c h1 h2 => v1 x c (by omega))) (cLw_f (L1 (nI (so D j))) (fun x c h1 h2 => v1 x c (by omega))) (tq_n (show k + 1 < 4 by omega)) (rnt_bd hb pr hg k) v2 (show so D j < 2 ^ 31 by omega) (d + w + 1) n J _ (fun I3 v3 v4 => ?_)
          have ea : nI (rps P D f a b lo pr f k) + nI (pay P D f a b lo (rnt P D f a b lo pr f k) (so D j)) = nI (rps P D f a b lo (fv pr k (so D j)) f (k + 1)) := by
            rw [rn_s.2]
            exact nI_add _ _
          simp only [z59_128, z59_130, z59_131, z59_132, z59_133, z59_134, z59_135, z59_136, z59_138, z59_139, sm_cti, sm_ctr, sm_ctn, sm_nbi, Option.toList_some, Option.toList_none, List.cons_append, List.nil_append, ne_eq, reduceCtorEq, not_false_eq_true, Nat.reduceLeDiff, rc60, c8, ea, nI_1, if_true, if_false, not_true_eq_false, not_false_eq_true, and_true, true_and, and_false, false_and, and_self, or_true, true_or, or_false, false_or, reduceIte, iff_self, Int32.add_zero, y_10, Classical.not_not]
          refine H (so D j) σ I3 _ hso hσ (by omega) (cFo_f (F1 (nI (so D j))) (fun x c h1 h2 => by rw [v3 x c (by omega), v1 x c (by omega)])) (cLw_f (L1 (nI (so D j))) (fun x c h1 h2 => by rw [v3 x c (by omega), v1 x c (by omega)])) (by rw [rn_s.1]; exact v4) (fun i hi => by rw [v3 _ _ (by omega), v1 _ _ (by omega), t1 i hi]) (by rw [v3 _ _ (by omega), v1 _ _ (by omega), m1]) ?_ (fun I4 u1 u2 u3 => ?_)
          · have r2 := r1 (nI (so D j))
            cases σ with
            | none => exact trivial
            | some mc => exact fun i hi => by rw [v3 _ _ (by omega), v1 _ _ (by omega)]; exact r2 i hi
          · simp only [z59_142, z59_145, sm_cti, sm_ctr, sm_ctn, sm_nbi, Option.toList_some, Option.toList_none, List.cons_append, List.nil_append, ne_eq, reduceCtorEq, not_false_eq_true, Nat.reduceLeDiff, nI_1, if_true, if_false, not_true_eq_false, not_false_eq_true, and_true, true_and, and_false, false_and, and_self, or_true, true_or, or_false, false_or, reduceIte, iff_self, Int32.add_zero, y_10, Classical.not_not]
            have hrc := c_ty_lp hb ht ht4 hF hL hT htr d n J K H r (j + 1) (by omega) (fsr P D f a b lo w (k + 1) (fv pr k (so D j)) σ) I4 (.int (nI (so D j))) (.ref (64 + 4 * (k + 1))) (.int (nI (pay P D f a b lo (rnt P D f a b lo pr f k) (so D j)))) rfl rfl rfl (fsr_bS (by omega) hσ) (fr9_t (fu (nI (so D j))) (fun x c hx => by rw [u1 x c (by omega), v3 x c (by omega), v1 x c (by omega)])) u2 u3 hK
            rw [if_neg hw] at hrc
            exact hrc
      by_cases hjD : j < D
      · have l2 : ¬ nI D ≤ nI j := nI_ge hjD (by omega)
        have es : so D j = j := by
          unfold so
          rw [if_pos hjD]
        rw [es] at goal2
        simp only [z59_19, z59_20, z59_23, z59_26, z59_29, z59_30, z59_32, z59_33, z59_34, z59_35, z59_36, z59_37, z59_38, z59_41, z59_45, z59_47, z59_48, z59_51, z59_54, z59_57, z59_59, sm_cti, sm_ctr, sm_ctn, sm_nbi, Option.toList_some, Option.toList_none, List.cons_append, List.nil_append, ne_eq, reduceCtorEq, not_false_eq_true, Nat.reduceLeDiff, kc34, kc60, rf60_2, e7, l, l2, e1, e2, e3, hm, hd', if_true, if_false, not_true_eq_false, not_false_eq_true, and_true, true_and, and_false, false_and, and_self, or_true, true_or, or_false, false_or, reduceIte, iff_self, Int32.add_zero, y_10, Classical.not_not]
        exact goal2
      · have l2 : nI D ≤ nI j := nI_le (by omega) (by omega)
        have es : so D j = 12 := by
          unfold so
          rw [if_neg hjD]
        rw [es] at goal2
        simp only [z59_19, z59_20, z59_23, z59_26, z59_29, z59_30, z59_32, z59_33, z59_34, z59_35, z59_36, z59_37, z59_38, z59_41, z59_45, z59_47, z59_48, z59_51, z59_54, z59_62, sm_cti, sm_ctr, sm_ctn, sm_nbi, Option.toList_some, Option.toList_none, List.cons_append, List.nil_append, ne_eq, reduceCtorEq, not_false_eq_true, Nat.reduceLeDiff, kc34, kc60, rf60_2, e7, l, l2, e1, e2, e3, hm, hd', if_true, if_false, not_true_eq_false, not_false_eq_true, and_true, true_and, and_false, false_and, and_self, or_true, true_or, or_false, false_or, reduceIte, iff_self, Int32.add_zero, y_10, Classical.not_not]
        exact goal2
theorem c_try (hb : bdf P D f a b) {t : Nat} (ht4 : t ≤ 4) (d n : Nat) (J : sm_J) : ∀ (w k : Nat), k + (w + 1) = t → ∀ (pr : Nat → Nat) (σ : SG) (I : sm_I) (K : Option Value → sm_H → Prop), bS σ → cFo P D f a b I → cLw lo I → cTa (64 + 4 * k) (rnt P D f a b lo pr f k) I → (∀ j, j < k → I 63 j = nI (pr j)) → I 60 1 = mo σ → bR t 61 σ I →
    (∀ I', fr9 k I I' → I' 60 1 = mo (fsr P D f a b lo (w + 1) k pr σ) → bR t 61 (fsr P D f a b lo (w + 1) k pr σ) I' → K none (sm_SH n, I', J)) →
    sm_Ok (d + w + 6) 59 0 [.ref 60, .int (nI k), .int (nI t), .int (nI (rps P D f a b lo pr f k)), .null, .null, .null, .null, .null] [] (sm_SH n, I, J) K
  | 0, k, hk, pr, σ, I, K, hσ, hF, hL, hT, htr, hm, hr, hK => by
    have l : ¬ nI (k + 1) < nI t := nI_nlt (by omega) (by omega)
    rw [z59_0]
    simp only [z59_1, z59_2, z59_3, z59_4, z59_7, z59_8, z59_12, z59_14, z59_15, sm_cti, sm_ctr, sm_ctn, sm_nbi, Option.toList_some, Option.toList_none, List.cons_append, List.nil_append, ne_eq, reduceCtorEq, not_false_eq_true, Nat.reduceLeDiff, nI_1, l, if_true, if_false, not_true_eq_false, not_false_eq_true, and_true, true_and, and_false, false_and, and_self, or_true, true_or, or_false, false_or, reduceIte, iff_self, Int32.add_zero, y_10, Classical.not_not]
    have hlp := c_ty_lp hb hk ht4 hF hL hT htr d n J K (fun e σ I1 K he hs hw => absurd hw (Nat.lt_irrefl _)) (D + 1) 0 (by omega) σ I .null .null .null rfl rfl rfl hσ (fun _ _ _ => rfl) hm hr hK
    rw [if_pos rfl] at hlp
    exact hlp
  | w + 1, k, hk, pr, σ, I, K, hσ, hF, hL, hT, htr, hm, hr, hK => by
    have l : nI (k + 1) < nI t := nI_lt (by omega) (by omega)
    rw [z59_0]
    simp only [z59_1, z59_2, z59_3, z59_4, z59_11, z59_12, z59_14, z59_15, sm_cti, sm_ctr, sm_ctn, sm_nbi, Option.toList_some, Option.toList_none, List.cons_append, List.nil_append, ne_eq, reduceCtorEq, not_false_eq_true, Nat.reduceLeDiff, nI_1, l, if_true, if_false, not_true_eq_false, not_false_eq_true, and_true, true_and, and_false, false_and, and_self, or_true, true_or, or_false, false_or, reduceIte, iff_self, Int32.add_zero, y_10, Classical.not_not]
    have hlp := c_ty_lp hb hk ht4 hF hL hT htr d n J K (fun e σ I1 K he hs hw F1 L1 T1 tr1 m1 r1 hK1 => ?_) (D + 1) 0 (by omega) σ I .null .null .null rfl rfl rfl hσ (fun _ _ _ => rfl) hm hr hK
    · rw [if_neg (by omega)] at hlp
      exact hlp
    · have := c_try hb ht4 d n J w (k + 1) (by omega) (fv pr k e) σ I1 K hs F1 L1 T1 tr1 m1 r1 hK1
      rw [show d + (w + 1) + 5 = d + w + 6 by omega]
      exact this
theorem m_lf_lp {I : sm_I} (hb : bdf P D f a b) (hM : mFo P D f a b I) (hL : mLw lo I) {t : Nat} (ht4 : t ≤ 4) {pr : Nat → Nat} (hpr : ∀ j, j < t → pr j < D ∨ pr j = 12) (htr : ∀ j, j < t → I 118 j = nI (pr j)) (x1 : Int32) (d n : Nat) (J : sm_J) (K : Option Value → sm_H → Prop)
    (hK : ∀ I', (∀ x c, ¬ ((112 ≤ x ∧ x < 116) ∨ (x = 103 ∧ ((14 ≤ c ∧ c ≤ 18) ∨ c = 23 ∨ c = 24))) → I' x c = I x c) → sm_Ok (d + 49) 198 44 [.ref 103, .int x1, .int (nI t), .int (nI (rps P D f a b lo pr f t)), .int (nI t)] [] (sm_SH n, I', J) K) : ∀ (w i : Nat), i + w = t → ∀ I1 : sm_I, (∀ x c, ¬ ((112 ≤ x ∧ x < 116) ∨ (x = 103 ∧ ((14 ≤ c ∧ c ≤ 18) ∨ c = 23 ∨ c = 24))) → I1 x c = I x c) → mTa P D (rnt P D f a b lo pr f i) I1 →
    sm_Ok (d + 49) 198 14 [.ref 103, .int x1, .int (nI t), .int (nI (rps P D f a b lo pr f i)), .int (nI i)] [] (sm_SH n, I1, J) K
  | 0, i, hi, I1, f1, t1 => by
    have hit : i = t := by omega
    subst hit
    rw [z198_14]
    simp only [z198_16, z198_17, sm_cti, sm_ctr, sm_ctn, sm_nbi, Option.toList_some, Option.toList_none, List.cons_append, List.nil_append, ne_eq, reduceCtorEq, not_false_eq_true, Nat.reduceLeDiff, Int32.le_refl, if_true, if_false, not_true_eq_false, not_false_eq_true, and_true, true_and, and_false, false_and, and_self, or_true, true_or, or_false, false_or, reduceIte, iff_self, Int32.add_zero, y_10, Classical.not_not]
    exact hK I1 f1
  | w + 1, i, hi, I1, f1, t1 => by
    have hg : bdg f := fun k k1 k2 k3 => hb.2.2.1 k k2
    have e0 : ¬ nI t ≤ nI i := nI_ge (by omega) (by omega)
    have es : I1 118 i = nI (pr i) := by rw [f1 _ _ (by omega), htr i (by omega)]
    have ho := hpr i (by omega)
    rw [z198_14]
    simp only [z198_16, z198_17, z198_20, z198_21, z198_22, z198_25, z198_27, z198_28, sm_cti, sm_ctr, sm_ctn, sm_nbi, Option.toList_some, Option.toList_none, List.cons_append, List.nil_append, ne_eq, reduceCtorEq, not_false_eq_true, Nat.reduceLeDiff, kc103, kc118, rc103, rf103_28, e0, es, y_inN (show i < 4 by omega) (by decide), nI_clamp (show i < 2 ^ 31 by omega), if_true, if_false, not_true_eq_false, not_false_eq_true, and_true, true_and, and_false, false_and, and_self, or_true, true_or, or_false, false_or, reduceIte, iff_self, Int32.add_zero, y_10, Classical.not_not]
    refine m_pass hb (mFo_f hM (fun x c hx => f1 x c (by omega))) (mLw_f hL (fun x c hx => f1 x c (by omega))) (rnt_bd hb pr hg i) t1 ho d n J _ (fun I2 w2 t2 p2 => ?_)
    have ea : nI (rps P D f a b lo pr f i) + nI (pay P D f a b lo (rnt P D f a b lo pr f i) (pr i)) = nI (rps P D f a b lo pr f (i + 1)) := nI_add _ _
    simp only [z198_31, z198_32, z198_33, z198_36, z198_37, z198_38, z198_41, sm_cti, sm_ctr, sm_ctn, sm_nbi, Option.toList_some, Option.toList_none, List.cons_append, List.nil_append, ne_eq, reduceCtorEq, not_false_eq_true, Nat.reduceLeDiff, kc103, p2, ea, nI_1, if_true, if_false, not_true_eq_false, not_false_eq_true, and_true, true_and, and_false, false_and, and_self, or_true, true_or, or_false, false_or, reduceIte, iff_self, Int32.add_zero, y_10, Classical.not_not]
    exact m_lf_lp hb hM hL ht4 hpr htr x1 d n J K hK w (i + 1) (by omega) I2 (fun x c hx => by rw [w2 x c (by omega), f1 x c hx]) t2
theorem m_cp_lp {I : sm_I} {t : Nat} (ht4 : t ≤ 4) {pr : Nat → Nat} (htr : ∀ j, j < t → I 118 j = nI (pr j)) (x1 x3 : Int32) (d n : Nat) (J : sm_J) (K : Option Value → sm_H → Prop)
    (hK : ∀ I', (∀ x c, ¬ x = 119 → I' x c = I x c) → (∀ j, j < t → I' 119 j = nI (pr j)) → K none (sm_SH n, I', J)) : ∀ (w i : Nat), i + w = t → ∀ I1 : sm_I, (∀ x c, ¬ x = 119 → I1 x c = I x c) → (∀ j, j < i → I1 119 j = nI (pr j)) →
    sm_Ok d 198 60 [.ref 103, .int x1, .int (nI t), .int x3, .int (nI i)] [] (sm_SH n, I1, J) K
  | 0, i, hi, I1, f1, t1 => by
    have hit : i = t := by omega
    subst hit
    rw [z198_60]
    simp only [z198_62, z198_63, z198_86, sm_cti, sm_ctr, sm_ctn, sm_nbi, Option.toList_some, Option.toList_none, List.cons_append, List.nil_append, ne_eq, reduceCtorEq, not_false_eq_true, Nat.reduceLeDiff, Int32.le_refl, if_true, if_false, not_true_eq_false, not_false_eq_true, and_true, true_and, and_false, false_and, and_self, or_true, true_or, or_false, false_or, reduceIte, iff_self, Int32.add_zero, y_10, Classical.not_not]
    exact hK I1 f1 t1
  | w + 1, i, hi, I1, f1, t1 => by
    have e0 : ¬ nI t ≤ nI i := nI_ge (by omega) (by omega)
    have es : I1 118 i = nI (pr i) := by rw [f1 _ _ (by omega), htr i (by omega)]
    rw [z198_60]
    simp only [z198_62, z198_63, z198_66, z198_67, z198_70, z198_72, z198_73, z198_76, z198_78, z198_79, z198_80, z198_83, sm_cti, sm_ctr, sm_ctn, sm_nbi, Option.toList_some, Option.toList_none, List.cons_append, List.nil_append, ne_eq, reduceCtorEq, not_false_eq_true, Nat.reduceLeDiff, kc103, kc118, kc119, rf103_28, rf103_29, e0, es, nI_1, y_inN (show i < 4 by omega) (by decide), nI_clamp (show i < 2 ^ 31 by omega), if_true, if_false, not_true_eq_false, not_false_eq_true, and_true, true_and, and_false, false_and, and_self, or_true, true_or, or_false, false_or, reduceIte, iff_self, Int32.add_zero, y_10, Classical.not_not]
    refine m_cp_lp ht4 htr x1 x3 d n J K hK w (i + 1) (by omega) _ (fun x c hx => by rw [uI_q _ _ hx, f1 x c hx]) (fun j hj => ?_)
    by_cases hji : j = i
    · subst hji
      rw [uI_s]
    · rw [uI_o _ _ (by omega), t1 j (by omega)]
def frm (k : Nat) (I I' : sm_I) : Prop := ∀ x c, ¬ ((112 ≤ x ∧ x < 116) ∨ (x = 103 ∧ ((14 ≤ c ∧ c ≤ 18) ∨ c = 23 ∨ c = 24 ∨ c = 30)) ∨ (x = 118 ∧ k ≤ c) ∨ x = 119) → I' x c = I x c
theorem m_tr_lp (hb : bdf P D f a b) {k w t : Nat} (ht : k + (w + 1) = t) (ht4 : t ≤ 4) {pr : Nat → Nat} (hpr : ∀ j, j < k → pr j < D ∨ pr j = 12) {I : sm_I} (hM : mFo P D f a b I) (hL : mLw lo I) (htr : ∀ j, j < k → I 118 j = nI (pr j)) (d n : Nat) (J : sm_J) (K : Option Value → sm_H → Prop)
    (H : ∀ (e : Nat) (σ : SG) (I1 : sm_I) (K : Option Value → sm_H → Prop), (e < D ∨ e = 12) → bS σ → mFo P D f a b I1 → mLw lo I1 → (∀ j, j < k + 1 → I1 118 j = nI (fv pr k e j)) → I1 103 30 = mo σ → bR t 119 σ I1 →
      (∀ I', frm (k + 1) I1 I' → I' 103 30 = mo (fsr P D f a b lo w (k + 1) (fv pr k e) σ) → bR t 119 (fsr P D f a b lo w (k + 1) (fv pr k e) σ) I' → K none (sm_SH n, I', J)) →
      sm_Ok (d + w + 49) 198 0 [.ref 103, .int (nI (k + 1)), .int (nI t), .null, .null] [] (sm_SH n, I1, J) K) : ∀ (r q : Nat), q + r = 13 → ∀ (σ : SG) (I1 : sm_I), bS σ → frm k I I1 → I1 103 30 = mo σ → bR t 119 σ I1 →
    (∀ I', frm k I I' → I' 103 30 = mo (if q = 13 then σ else fldS (fun j σ => fsr P D f a b lo w (k + 1) (fv pr k (so D j)) σ) (D + 1 - min q D) (min q D) σ) → bR t 119 (if q = 13 then σ else fldS (fun j σ => fsr P D f a b lo w (k + 1) (fv pr k (so D j)) σ) (D + 1 - min q D) (min q D) σ) I' → K none (sm_SH n, I', J)) →
    sm_Ok (d + w + 50) 198 89 [.ref 103, .int (nI k), .int (nI t), .int (nI q), .null] [] (sm_SH n, I1, J) K
  | 0, q, hq, σ, I1, hσ, w1, hm, hr, hK => by
    have hq13 : q = 13 := by omega
    subst hq13
    rw [if_pos rfl] at hK
    have l : (12 : Int32) < nI 13 := by decide
    rw [z198_89]
    simp only [z198_90, z198_92, z198_130, sm_cti, sm_ctr, sm_ctn, sm_nbi, Option.toList_some, Option.toList_none, List.cons_append, List.nil_append, ne_eq, reduceCtorEq, not_false_eq_true, Nat.reduceLeDiff, l, if_true, if_false, not_true_eq_false, not_false_eq_true, and_true, true_and, and_false, false_and, and_self, or_true, true_or, or_false, false_or, reduceIte, iff_self, Int32.add_zero, y_10, Classical.not_not]
    exact hK I1 w1 hm hr
  | r + 1, q, hq, σ, I1, hσ, w1, hm, hr, hK => by
    have hD := hb.2.1
    rw [if_neg (by omega)] at hK
    have l : ¬ (12 : Int32) < nI q := nI_nlt (a := 12) (by omega) (by omega)
    have e7 : I1 103 7 = nI D := by rw [w1 _ _ (by omega), hM.2.1]
    -- a song is tried
    have go : (q < D ∨ q = 12) → so D (min q D) = q → fldS (fun j σ => fsr P D f a b lo w (k + 1) (fv pr k (so D j)) σ) (D + 1 - min q D) (min q D) σ = (if q + 1 = 13 then fsr P D f a b lo w (k + 1) (fv pr k q) σ else fldS (fun j σ => fsr P D f a b lo w (k + 1) (fv pr k (so D j)) σ) (D + 1 - min (q + 1) D) (min (q + 1) D) (fsr P D f a b lo w (k + 1) (fv pr k q) σ)) → sm_Ok (d + w + 50) 198 109 [.ref 103, .int (nI k), .int (nI t), .int (nI q), .null] [] (sm_SH n, I1, J) K := fun hq2 hso hfl => by
      rw [hfl] at hK
      simp only [z198_109, z198_110, z198_113, z198_114, z198_115, z198_116, z198_117, z198_118, z198_119, z198_120, z198_121, sm_cti, sm_ctr, sm_ctn, sm_nbi, Option.toList_some, Option.toList_none, List.cons_append, List.nil_append, ne_eq, reduceCtorEq, not_false_eq_true, Nat.reduceLeDiff, kc103, kc118, rc103, rf103_28, nI_1, y_inN (show k < 4 by omega) (by decide), nI_clamp (show k < 2 ^ 31 by omega), if_true, if_false, not_true_eq_false, not_false_eq_true, and_true, true_and, and_false, false_and, and_self, or_true, true_or, or_false, false_or, reduceIte, iff_self, Int32.add_zero, y_10, Classical.not_not]
      refine H q σ _ _ hq2 hσ (mFo_f hM (fun x c hx => by rw [uI_q _ _ (by omega), w1 _ _ (by omega)])) (mLw_f hL (fun x c hx => by rw [uI_q _ _ (by omega), w1 _ _ (by omega)])) (fun i hi => ?_) (by rw [uI_q _ _ (by omega), hm]) ?_ (fun I2 v1 v2 v3 => ?_)
      · by_cases hik : i = k
        · subst hik
          rw [uI_s, fv_s]
        · rw [uI_o _ _ (by omega), w1 _ _ (by omega), htr i (by omega), fv_o _ hik]
      · cases σ with
        | none => exact trivial
        | some mc => exact fun i hi => by rw [uI_q _ _ (by omega)]; exact hr i hi
      · simp only [z198_124, z198_127, sm_cti, sm_ctr, sm_ctn, sm_nbi, Option.toList_some, Option.toList_none, List.cons_append, List.nil_append, ne_eq, reduceCtorEq, not_false_eq_true, Nat.reduceLeDiff, nI_1, if_true, if_false, not_true_eq_false, not_false_eq_true, and_true, true_and, and_false, false_and, and_self, or_true, true_or, or_false, false_or, reduceIte, iff_self, Int32.add_zero, y_10, Classical.not_not]
        exact m_tr_lp hb ht ht4 hpr hM hL htr d n J K H r (q + 1) (by omega) (fsr P D f a b lo w (k + 1) (fv pr k q) σ) I2 (fsr_bS (by omega) hσ) (fun x c hx => by rw [v1 x c (by omega), uI_o _ _ (by omega), w1 x c hx]) v2 v3 hK
    rw [z198_89]
    by_cases hqD : q < D
    · have l2 : nI q < nI D := nI_lt hqD (by omega)
      have em : min q D = q := by omega
      have eso : so D q = q := by
        unfold so
        rw [if_pos hqD]
      simp only [z198_90, z198_92, z198_95, z198_96, z198_97, z198_100, sm_cti, sm_ctr, sm_ctn, sm_nbi, Option.toList_some, Option.toList_none, List.cons_append, List.nil_append, ne_eq, reduceCtorEq, not_false_eq_true, Nat.reduceLeDiff, kc103, e7, l, l2, if_true, if_false, not_true_eq_false, not_false_eq_true, and_true, true_and, and_false, false_and, and_self, or_true, true_or, or_false, false_or, reduceIte, iff_self, Int32.add_zero, y_10, Classical.not_not]
      refine go (Or.inl hqD) (by rw [em, eso]) ?_
      rw [em, if_neg (by omega), show D + 1 - q = (D - q) + 1 by omega, fldS_s, eso, show min (q + 1) D = q + 1 by omega, show D + 1 - (q + 1) = D - q by omega]
    · have l2 : ¬ nI q < nI D := nI_nlt (by omega) (by omega)
      by_cases hq12 : q = 12
      · subst hq12
        have em : min 12 D = D := by omega
        have eso : so D D = 12 := by
          unfold so
          rw [if_neg (by omega)]
        have e12 : nI 12 = 12 := rfl
        rw [e12] at l2 ⊢
        have go' := go (Or.inr rfl) (by rw [em, eso]) (by
          rw [em, if_pos rfl, show D + 1 - D = 0 + 1 by omega, fldS_s, eso]
          rfl)
        rw [e12] at go'
        have l3 : ¬ (12 : Int32) < 12 := by decide
        simp only [z198_90, z198_92, z198_95, z198_96, z198_97, z198_100, z198_103, z198_104, z198_106, sm_cti, sm_ctr, sm_ctn, sm_nbi, Option.toList_some, Option.toList_none, List.cons_append, List.nil_append, ne_eq, reduceCtorEq, not_false_eq_true, Nat.reduceLeDiff, kc103, e7, l3, l2, if_true, if_false, not_true_eq_false, not_false_eq_true, and_true, true_and, and_false, false_and, and_self, or_true, true_or, or_false, false_or, reduceIte, iff_self, Int32.add_zero, y_10, Classical.not_not]
        exact go'
      · have l3 : ¬ nI q = 12 := fun z => hq12 ((nI_eq (b := 12) (by omega) (by decide)).mp z)
        simp only [z198_90, z198_92, z198_95, z198_96, z198_97, z198_100, z198_103, z198_104, z198_106, z198_124, z198_127, sm_cti, sm_ctr, sm_ctn, sm_nbi, Option.toList_some, Option.toList_none, List.cons_append, List.nil_append, ne_eq, reduceCtorEq, not_false_eq_true, Nat.reduceLeDiff, kc103, e7, l, l2, l3, nI_1, if_true, if_false, not_true_eq_false, not_false_eq_true, and_true, true_and, and_false, false_and, and_self, or_true, true_or, or_false, false_or, reduceIte, iff_self, Int32.add_zero, y_10, Classical.not_not]
        refine m_tr_lp hb ht ht4 hpr hM hL htr d n J K H r (q + 1) (by omega) σ I1 hσ w1 hm hr ?_
        rw [if_neg (by omega), show min (q + 1) D = min q D by omega]
        exact hK
theorem m_try (hb : bdf P D f a b) {t : Nat} (ht4 : t ≤ 4) (d n : Nat) (J : sm_J) : ∀ (w k : Nat), k + w = t → ∀ (pr : Nat → Nat) (σ : SG) (I : sm_I) (K : Option Value → sm_H → Prop), bS σ → (∀ j, j < k → pr j < D ∨ pr j = 12) → mFo P D f a b I → mLw lo I → (∀ j, j < k → I 118 j = nI (pr j)) → I 103 30 = mo σ → bR t 119 σ I →
    (∀ I', frm k I I' → I' 103 30 = mo (fsr P D f a b lo w k pr σ) → bR t 119 (fsr P D f a b lo w k pr σ) I' → K none (sm_SH n, I', J)) →
    sm_Ok (d + w + 49) 198 0 [.ref 103, .int (nI k), .int (nI t), .null, .null] [] (sm_SH n, I, J) K
  | 0, k, hk, pr, σ, I, K, hσ, hpr, hM, hL, htr, hm, hr, hK => by
    have hkt : k = t := by omega
    subst hkt
    have n0 : (0 : Int32) = nI 0 := rfl
    have hp := rps_le (P := P) (D := D) (f := f) (a := a) (b := b) (lo := lo) pr f k
    rw [z198_0]
    simp only [z198_1, z198_2, z198_5, z198_6, sm_cti, sm_ctr, sm_ctn, sm_nbi, Option.toList_some, Option.toList_none, List.cons_append, List.nil_append, ne_eq, reduceCtorEq, not_false_eq_true, Nat.reduceLeDiff, rc103, if_true, if_false, not_true_eq_false, not_false_eq_true, and_true, true_and, and_false, false_and, and_self, or_true, true_or, or_false, false_or, reduceIte, iff_self, Int32.add_zero, y_10, Classical.not_not]
    refine m_begins hb hM _ n J _ (fun I1 w1 t1 => ?_)
    simp only [z198_9, z198_10, z198_11, z198_12, sm_cti, sm_ctr, sm_ctn, sm_nbi, Option.toList_some, Option.toList_none, List.cons_append, List.nil_append, ne_eq, reduceCtorEq, not_false_eq_true, Nat.reduceLeDiff, if_true, if_false, not_true_eq_false, not_false_eq_true, and_true, true_and, and_false, false_and, and_self, or_true, true_or, or_false, false_or, reduceIte, iff_self, Int32.add_zero, y_10, Classical.not_not]
    rw [n0]
    have fin : ∀ I2 : sm_I, (∀ x c, ¬ ((112 ≤ x ∧ x < 116) ∨ (x = 103 ∧ ((14 ≤ c ∧ c ≤ 18) ∨ c = 23 ∨ c = 24))) → I2 x c = I1 x c) → sm_Ok (d + 49) 198 44 [.ref 103, .int (nI k), .int (nI k), .int (nI (rps P D f a b lo pr f k)), .int (nI k)] [] (sm_SH n, I2, J) K := fun I2 w2 => by
      have m2 : I2 103 30 = mo σ := by rw [w2 _ _ (by omega), w1 _ _ (by omega), hm]
      have hK' : ∀ I', frm k I I' → I' 103 30 = mo (bup σ (rps P D f a b lo pr f k) pr) → bR k 119 (bup σ (rps P D f a b lo pr f k) pr) I' → K none (sm_SH n, I', J) := hK
      by_cases hd : dead σ (rps P D f a b lo pr f k)
      · have hd' : nI (rps P D f a b lo pr f k) ≤ mo σ := (mo_le hσ (by omega)).mpr hd
        rw [bup_dead hd] at hK'
        simp only [z198_44, z198_45, z198_46, z198_49, z198_86, sm_cti, sm_ctr, sm_ctn, sm_nbi, Option.toList_some, Option.toList_none, List.cons_append, List.nil_append, ne_eq, reduceCtorEq, not_false_eq_true, Nat.reduceLeDiff, kc103, m2, hd', if_true, if_false, not_true_eq_false, not_false_eq_true, and_true, true_and, and_false, false_and, and_self, or_true, true_or, or_false, false_or, reduceIte, iff_self, Int32.add_zero, y_10, Classical.not_not]
        refine hK' I2 (fun x c hx => by rw [w2 _ _ (by omega), w1 _ _ (by omega)]) m2 ?_
        cases σ with
        | none => exact trivial
        | some mc => exact fun j hj => by rw [w2 _ _ (by omega), w1 _ _ (by omega)]; exact hr j hj
      · have hd' : ¬ nI (rps P D f a b lo pr f k) ≤ mo σ := fun z => hd ((mo_le hσ (by omega)).mp z)
        rw [bup_live hd] at hK'
        simp only [z198_44, z198_45, z198_46, z198_49, z198_52, z198_53, z198_54, z198_57, z198_58, sm_cti, sm_ctr, sm_ctn, sm_nbi, Option.toList_some, Option.toList_none, List.cons_append, List.nil_append, ne_eq, reduceCtorEq, not_false_eq_true, Nat.reduceLeDiff, kc103, m2, hd', if_true, if_false, not_true_eq_false, not_false_eq_true, and_true, true_and, and_false, false_and, and_self, or_true, true_or, or_false, false_or, reduceIte, iff_self, Int32.add_zero, y_10, Classical.not_not]
        rw [n0]
        refine m_cp_lp (I := sm_uI I2 103 30 (nI (rps P D f a b lo pr f k))) ht4 (pr := pr) (fun j hj => by rw [uI_q _ _ (by omega), w2 _ _ (by omega), w1 _ _ (by omega), htr j hj]) _ _ _ n J K (fun I3 v1 v2 => ?_) k 0 (by omega) _ (fun _ _ _ => rfl) (fun j hj => absurd hj (Nat.not_lt_zero _))
        refine hK' I3 (fun x c hx => by rw [v1 _ _ (by omega), uI_o _ _ (by omega), w2 _ _ (by omega), w1 _ _ (by omega)]) ?_ v2
        rw [v1 _ _ (by omega), uI_s]
        rfl
    exact m_lf_lp hb (mFo_f hM (fun x c hx => w1 x c (by omega))) (mLw_f hL (fun x c hx => w1 x c (by omega))) ht4 hpr (fun j hj => by rw [w1 _ _ (by omega), htr j hj]) _ d n J K fin k 0 (by omega) I1 (fun _ _ _ => rfl) t1
  | w + 1, k, hk, pr, σ, I, K, hσ, hpr, hM, hL, htr, hm, hr, hK => by
    have hD := hb.2.1
    have l : ¬ nI k = nI t := fun z => by have := (nI_eq (a := k) (b := t) (by omega) (by omega)).mp z; omega
    have n0 : (0 : Int32) = nI 0 := rfl
    rw [z198_0, show d + (w + 1) + 49 = d + w + 50 by omega]
    simp only [z198_1, z198_2, z198_87, z198_88, sm_cti, sm_ctr, sm_ctn, sm_nbi, Option.toList_some, Option.toList_none, List.cons_append, List.nil_append, ne_eq, reduceCtorEq, not_false_eq_true, Nat.reduceLeDiff, l, if_true, if_false, not_true_eq_false, not_false_eq_true, and_true, true_and, and_false, false_and, and_self, or_true, true_or, or_false, false_or, reduceIte, iff_self, Int32.add_zero, y_10, Classical.not_not]
    rw [n0]
    refine m_tr_lp hb hk ht4 hpr hM hL htr d n J K (fun e σ I1 K he hs M1 L1 tr1 m1 r1 hK1 => ?_) 13 0 (by omega) σ I hσ (fun _ _ _ => rfl) hm hr ?_
    · exact m_try hb ht4 d n J w (k + 1) (by omega) (fv pr k e) σ I1 K hs (fun j hj => by
        by_cases hjk : j = k
        · subst hjk
          rw [fv_s]
          exact he
        · rw [fv_o _ hjk]
          exact hpr j (by omega)) M1 L1 tr1 m1 r1 hK1
    · rw [if_neg (by omega), show min 0 D = 0 by omega, Nat.sub_zero]
      exact hK
end
theorem pw_best {n : Nat} {xs : Nat → Int32} {I : sm_I} {J : sm_J} (hI : Inv xs I J) (x y : Int32) : pw n I J 99 [.ref 26, .int x, .int y] 199 [.ref 103, .int x, .int y] (fun I2 J2 => Inv xs I2 J2) := by
  obtain ⟨P, D, B, i1, i2, i3, i4, i5, i6, i7, i8⟩ := id hI
  obtain ⟨f, a, b, hb, cF, cT, mF, hz⟩ := fo_pure i2
  obtain ⟨lo, cl, ml⟩ := la_lo i5
  have hD := hb.2.1
  have n0 : (0 : Int32) = nI 0 := rfl
  have y_wid1 : ∀ y : Int32, ((-1 : Int64) ≤ y.toInt64) = (-1 ≤ y) := fun y => y_wm1 y
  intro d K hK
  by_cases h0 : 0 ≤ x ∧ x ≤ 4
  · obtain ⟨t, ht, rfl⟩ := nI_of2 (M := 4) (n := 4) (by decide) (Int32.not_lt.mpr h0.1) h0.2
    have pr1 : ∀ y : Int32, (y ≤ nI t - 1) = (y < nI t) := fun y => y_pred (show t < 2 ^ 31 by omega)
    by_cases h1 : -1 ≤ y ∧ y < nI t
    · have hy1 : ¬ y < -1 := Int32.not_lt.mpr h1.1
      obtain ⟨mc, hmc⟩ := fsr_some (P := P) (D := D) (f := f) (a := a) (b := b) (lo := lo) (w := t) (k := 0) (pr := fun _ => 0) (σ := none)
      -- the reference
      have ref : ∀ (I1 : sm_I) (K2 : Option Value → sm_H → Prop), mFo P D f a b I1 → mLw lo I1 → (∀ I', (∀ x c, ¬ ((112 ≤ x ∧ x < 116) ∨ (x = 103 ∧ ((14 ≤ c ∧ c ≤ 18) ∨ c = 23 ∨ c = 24 ∨ c = 30)) ∨ x = 118 ∨ x = 119) → I' x c = I1 x c) → I' 103 30 = nI mc.1 → (∀ j, j < t → I' 119 j = nI (mc.2 j)) → sm_Ok (d + 200) 199 40 [.ref 103, .int (nI t), .int y] [] (sm_SH n, I', J) K2) → sm_Ok (d + 200) 199 0 [.ref 103, .int (nI t), .int y] [] (sm_SH n, I1, J) K2 := fun I1 K2 M1 L1 hK2 => by
        obtain ⟨d0, hd⟩ : ∃ d0, d + 199 = d0 + t + 49 := ⟨d + 150 - t, by omega⟩
        rw [z199_0]
        simp only [z199_1, z199_2, z199_3, z199_6, z199_9, z199_12, z199_13, z199_14, z199_17, z199_18, z199_19, z199_20, z199_21, z199_24, z199_29, z199_30, z199_31, z199_34, z199_35, z199_36, z199_37, sm_cti, sm_ctr, sm_ctn, sm_nbi, Option.toList_some, Option.toList_none, List.cons_append, List.nil_append, ne_eq, reduceCtorEq, not_false_eq_true, Nat.reduceLeDiff, kc103, rc103, m_within, y_w0, y_v4, y_wid1, y_wid, pr1, y_bit, h0, h1, if_true, if_false, not_true_eq_false, not_false_eq_true, and_true, true_and, and_false, false_and, and_self, or_true, true_or, or_false, false_or, reduceIte, iff_self, Int32.add_zero, y_10, Classical.not_not]
        rw [n0, hd]
        refine m_try hb ht d0 n J t 0 (by omega) (fun _ => 0) none _ _ trivial (fun j hj => absurd hj (Nat.not_lt_zero _)) (mFo_f M1 (fun x c hx => by rw [uI_o _ _ (by omega)])) (mLw_f L1 (fun x c hx => by rw [uI_o _ _ (by omega)])) (fun j hj => absurd hj (Nat.not_lt_zero _)) (by rw [uI_s]; rfl) trivial (fun I2 w1 w2 w3 => ?_)
        rw [hmc] at w2 w3
        simp only [sm_cti, sm_ctr, sm_ctn, sm_nbi, Option.toList_some, Option.toList_none, List.cons_append, List.nil_append, ne_eq, reduceCtorEq, not_false_eq_true, Nat.reduceLeDiff]
        rw [show d0 + t + 49 + 1 = d + 200 by omega]
        exact hK2 I2 (fun x c hx => by rw [w1 x c (by omega), uI_o _ _ (by omega)]) w2 w3
      by_cases ht0 : t = 0
      · subst ht0
        have hym : y < 0 := h1.2
        have hr0 : rps P D f a b lo (fun _ => 0) f 0 = 0 := rfl
        have hmc1 : mc.1 = 0 := by
          have : fsr P D f a b lo 0 0 (fun _ => 0) none = some (0, fun _ => 0) := rfl
          rw [this] at hmc
          cases hmc
          rfl
        have l0 : nI 0 ≤ 0 := by decide
        have hyz : ¬ (0 : Int32) ≤ y := Int32.not_le.mpr hym
        have us : ∀ (A : sm_I) v, sm_uI A 60 1 v 60 1 = v := fun A v => uI_s _ _ _ _
        rw [z99_0]
        simp only [z99_1, z99_2, z99_5, z99_8, z99_9, z99_10, z99_13, z99_14, z99_15, z99_20, z99_21, z99_24, z99_25, z99_28, z99_29, z58_0, z58_1, z58_2, z58_5, z58_6, z58_36, z99_32, z99_33, z99_36, z99_37, z99_40, z99_43, z99_55, sm_cti, sm_ctr, sm_ctn, sm_nbi, Option.toList_some, Option.toList_none, List.cons_append, List.nil_append, ne_eq, reduceCtorEq, not_false_eq_true, Nat.reduceLeDiff, kc26, kc60, rc60, rf26_3, rf26_8, y_within, y_bit, h0, hy1, h1.2, l0, hyz, us, if_true, if_false, not_true_eq_false, not_false_eq_true, and_true, true_and, and_false, false_and, and_self, or_true, true_or, or_false, false_or, reduceIte, iff_self, Int32.add_zero, y_10, Classical.not_not]
        refine hK _ _ J (fun K2 h3 => ref _ K2 (mFo_f mF (fun x c hx => by rw [uI_q _ _ (by omega)])) (mLw_f ml (fun x c hx => by rw [uI_q _ _ (by omega)])) (fun I2 w1 w2 w3 => ?_))
        rw [hmc1] at w2
        simp only [z199_40, z199_41, z199_44, z199_45, z199_48, z199_57, sm_cti, sm_ctr, sm_ctn, sm_nbi, Option.toList_some, Option.toList_none, List.cons_append, List.nil_append, ne_eq, reduceCtorEq, not_false_eq_true, Nat.reduceLeDiff, kc103, hyz, w2, if_true, if_false, not_true_eq_false, not_false_eq_true, and_true, true_and, and_false, false_and, and_self, or_true, true_or, or_false, false_or, reduceIte, iff_self, Int32.add_zero, y_10, Classical.not_not]
        exact h3 I2 J (Inv_0 hI (ag0 (fun x c hx => by rw [w1 x c (by omega), uI_q _ _ (by omega)])))
      · -- the class
        have l0 : ¬ nI t ≤ 0 := nI_ge (a := 0) (by omega) (by omega)
        have l4 : ¬ (4 : Int32) < nI t := nI_nlt (a := 4) (by omega) (by omega)
        have i0 : sm_in 0 4 = true := by decide
        have c0 : 64 + 4 * (0 : Int32).toNatClampNeg = 64 := by decide
        obtain ⟨w, rfl⟩ : ∃ w, t = w + 1 := ⟨t - 1, by omega⟩
        obtain ⟨d0, hd⟩ : ∃ d0, d + 198 = d0 + w + 6 := ⟨d + 192 - w, by omega⟩
        rw [z99_0]
        simp only [z99_1, z99_2, z99_5, z99_8, z99_9, z99_10, z99_13, z99_14, z99_15, z99_20, z99_21, z99_24, z99_25, z99_28, z99_29, z58_0, z58_1, z58_2, z58_5, z58_6, z58_9, z58_10, z58_11, z58_14, z58_15, z58_16, z58_19, z58_20, z58_23, z58_24, z58_25, z58_26, sm_cti, sm_ctr, sm_ctn, sm_nbi, Option.toList_some, Option.toList_none, List.cons_append, List.nil_append, ne_eq, reduceCtorEq, not_false_eq_true, Nat.reduceLeDiff, kc26, kc60, rc60, rc64, rf26_3, rf26_8, rf60_3, y_within, y_bit, h0, hy1, h1.2, l0, l4, i0, c0, if_true, if_false, not_true_eq_false, not_false_eq_true, and_true, true_and, and_false, false_and, and_self, or_true, true_or, or_false, false_or, reduceIte, iff_self, Int32.add_zero, y_10, Classical.not_not]
        refine c_bec (q := 40) (r := 64) (Or.inl rfl) (tq_n (k := 0) (by omega)) (by decide) (cTa_f cT (fun x c h1 h2 => by rw [uI_q _ _ (by omega), uI_q _ _ (by omega)])) (d + 197) n J _ (fun I1 w1 t1 => ?_)
        simp only [z58_29, z58_30, z58_31, z58_32, z58_33, sm_cti, sm_ctr, sm_ctn, sm_nbi, Option.toList_some, Option.toList_none, List.cons_append, List.nil_append, ne_eq, reduceCtorEq, not_false_eq_true, Nat.reduceLeDiff, rc60, if_true, if_false, not_true_eq_false, not_false_eq_true, and_true, true_and, and_false, false_and, and_self, or_true, true_or, or_false, false_or, reduceIte, iff_self, Int32.add_zero, y_10, Classical.not_not]
        rw [n0, hd]
        refine c_try (lo := lo) hb ht d0 n J w 0 (by omega) (fun _ => 0) none I1 _ trivial (cFo_f cF (fun x c h1 h2 => by rw [w1 _ _ (by omega), uI_q _ _ (by omega), uI_q _ _ (by omega)])) (cLw_f cl (fun x c h1 h2 => by rw [w1 _ _ (by omega), uI_q _ _ (by omega), uI_q _ _ (by omega)])) t1 (fun j hj => absurd hj (Nat.not_lt_zero _)) (by rw [w1 _ _ (by omega), uI_s]; rfl) trivial (fun I2 v1 v2 v3 => ?_)
        rw [hmc] at v2 v3
        rw [show d0 + w + 6 + 1 = d + 199 by omega]
        have tI : ∀ x c, ¬ (x = 29 ∨ x = 30 ∨ (60 ≤ x ∧ x < 80)) → I2 x c = I x c := fun x c hx => by rw [v1 x c (by omega), w1 x c (by omega), uI_q _ _ (by omega), uI_q _ _ (by omega)]
        have v2' : I2 60 1 = nI mc.1 := v2
        have v3' : ∀ j, j < w + 1 → I2 61 j = nI (mc.2 j) := v3
        have M2 : mFo P D f a b I2 := mFo_f mF (fun x c hx => tI x c (by omega))
        have L2 : mLw lo I2 := mLw_f ml (fun x c hx => tI x c (by omega))
        by_cases hy0 : 0 ≤ y
        · obtain ⟨j, hj, rfl⟩ := y_idx (show w + 1 < 2 ^ 31 by omega) ⟨hy0, h1.2⟩
          simp only [z58_36, z99_32, z99_33, z99_46, z99_47, z99_50, z99_53, z99_54, z99_55, sm_cti, sm_ctr, sm_ctn, sm_nbi, Option.toList_some, Option.toList_none, List.cons_append, List.nil_append, ne_eq, reduceCtorEq, not_false_eq_true, Nat.reduceLeDiff, kc26, kc60, kc61, rf26_8, rf60_0, hy0, v3' j hj, y_inN (show j < 4 by omega) (by decide), nI_clamp (show j < 2 ^ 31 by omega), if_true, if_false, not_true_eq_false, not_false_eq_true, and_true, true_and, and_false, false_and, and_self, or_true, true_or, or_false, false_or, reduceIte, iff_self, Int32.add_zero, y_10, Classical.not_not]
          refine hK _ I2 J (fun K2 h3 => ref I2 K2 M2 L2 (fun I3 u1 u2 u3 => ?_))
          simp only [z199_40, z199_41, z199_51, z199_52, z199_55, z199_56, z199_57, sm_cti, sm_ctr, sm_ctn, sm_nbi, Option.toList_some, Option.toList_none, List.cons_append, List.nil_append, ne_eq, reduceCtorEq, not_false_eq_true, Nat.reduceLeDiff, kc103, kc119, rf103_29, hy0, u3 j hj, y_inN (show j < 4 by omega) (by decide), nI_clamp (show j < 2 ^ 31 by omega), if_true, if_false, not_true_eq_false, not_false_eq_true, and_true, true_and, and_false, false_and, and_self, or_true, true_or, or_false, false_or, reduceIte, iff_self, Int32.add_zero, y_10, Classical.not_not]
          exact h3 I3 J (Inv_0 hI (ag0 (fun x c hx => by rw [u1 x c (by omega), tI x c (by omega)])))
        · simp only [z58_36, z99_32, z99_33, z99_36, z99_37, z99_40, z99_43, z99_55, sm_cti, sm_ctr, sm_ctn, sm_nbi, Option.toList_some, Option.toList_none, List.cons_append, List.nil_append, ne_eq, reduceCtorEq, not_false_eq_true, Nat.reduceLeDiff, kc26, kc60, rf26_8, hy0, v2', if_true, if_false, not_true_eq_false, not_false_eq_true, and_true, true_and, and_false, false_and, and_self, or_true, true_or, or_false, false_or, reduceIte, iff_self, Int32.add_zero, y_10, Classical.not_not]
          refine hK _ I2 J (fun K2 h3 => ref I2 K2 M2 L2 (fun I3 u1 u2 u3 => ?_))
          simp only [z199_40, z199_41, z199_44, z199_45, z199_48, z199_57, sm_cti, sm_ctr, sm_ctn, sm_nbi, Option.toList_some, Option.toList_none, List.cons_append, List.nil_append, ne_eq, reduceCtorEq, not_false_eq_true, Nat.reduceLeDiff, kc103, hy0, u2, if_true, if_false, not_true_eq_false, not_false_eq_true, and_true, true_and, and_false, false_and, and_self, or_true, true_or, or_false, false_or, reduceIte, iff_self, Int32.add_zero, y_10, Classical.not_not]
          exact h3 I3 J (Inv_0 hI (ag0 (fun x c hx => by rw [u1 x c (by omega), tI x c (by omega)])))
    · have hc : y < -1 ∨ ¬ y < nI t := by
        by_cases z : y < -1
        · exact Or.inl z
        · exact Or.inr (fun z2 => h1 ⟨Int32.not_lt.mp z, z2⟩)
      have ec : sm_Ok (d + 200) 99 0 [.ref 26, .int (nI t), .int y] [] (sm_SH n, I, J) K ↔ K (some (.int (-1))) (sm_SH n, I, J) := by
        rw [z99_0]
        by_cases z : y < -1
        · simp only [z99_1, z99_2, z99_5, z99_8, z99_9, z99_10, z99_18, z99_19, sm_cti, sm_ctr, sm_ctn, sm_nbi, Option.toList_some, Option.toList_none, List.cons_append, List.nil_append, ne_eq, reduceCtorEq, not_false_eq_true, Nat.reduceLeDiff, y_within, y_bit, h0, z, if_true, if_false, not_true_eq_false, not_false_eq_true, and_true, true_and, and_false, false_and, and_self, or_true, true_or, or_false, false_or, reduceIte, iff_self, Int32.add_zero, y_10, Classical.not_not]
        · have z2 := hc.resolve_left z
          simp only [z99_1, z99_2, z99_5, z99_8, z99_9, z99_10, z99_13, z99_14, z99_15, z99_18, z99_19, sm_cti, sm_ctr, sm_ctn, sm_nbi, Option.toList_some, Option.toList_none, List.cons_append, List.nil_append, ne_eq, reduceCtorEq, not_false_eq_true, Nat.reduceLeDiff, y_within, y_bit, h0, z, z2, if_true, if_false, not_true_eq_false, not_false_eq_true, and_true, true_and, and_false, false_and, and_self, or_true, true_or, or_false, false_or, reduceIte, iff_self, Int32.add_zero, y_10, Classical.not_not]
      rw [ec]
      refine hK _ I J (fun K2 h3 => ?_)
      rw [z199_0]
      simp only [z199_1, z199_2, z199_3, z199_6, z199_9, z199_12, z199_13, z199_14, z199_17, z199_18, z199_19, z199_20, z199_21, z199_24, z199_27, z199_28, sm_cti, sm_ctr, sm_ctn, sm_nbi, Option.toList_some, Option.toList_none, List.cons_append, List.nil_append, ne_eq, reduceCtorEq, not_false_eq_true, Nat.reduceLeDiff, m_within, y_w0, y_v4, y_wid1, y_wid, pr1, y_bit, h0, h1, if_true, if_false, not_true_eq_false, not_false_eq_true, and_true, true_and, and_false, false_and, and_self, or_true, true_or, or_false, false_or, reduceIte, iff_self, Int32.add_zero, y_10, Classical.not_not]
      exact h3 I J hI
  · rw [z99_0]
    simp only [z99_1, z99_2, z99_5, z99_18, z99_19, sm_cti, sm_ctr, sm_ctn, sm_nbi, Option.toList_some, Option.toList_none, List.cons_append, List.nil_append, ne_eq, reduceCtorEq, not_false_eq_true, Nat.reduceLeDiff, y_within, y_bit, h0, if_true, if_false, not_true_eq_false, not_false_eq_true, and_true, true_and, and_false, false_and, and_self, or_true, true_or, or_false, false_or, reduceIte, iff_self, Int32.add_zero, y_10, Classical.not_not]
    refine hK _ I J (fun K2 h3 => ?_)
    rw [z199_0]
    simp only [z199_1, z199_2, z199_3, z199_6, z199_9, z199_27, z199_28, sm_cti, sm_ctr, sm_ctn, sm_nbi, Option.toList_some, Option.toList_none, List.cons_append, List.nil_append, ne_eq, reduceCtorEq, not_false_eq_true, Nat.reduceLeDiff, m_within, y_w0, y_v4, y_bit, h0, if_true, if_false, not_true_eq_false, not_false_eq_true, and_true, true_and, and_false, false_and, and_self, or_true, true_or, or_false, false_or, reduceIte, iff_self, Int32.add_zero, y_10, Classical.not_not]
    exact h3 I J hI
