/-! how the reference reads a text: levels -/
section
variable {t : Nat → Nat} {N : Nat}
/-- what the reference reads: the tape, or the law's text -/
def mtp (t : Nat → Nat) (N : Nat) (I : sm_I) : Prop := N ≤ 120 ∧ I 103 16 = nI N ∧ (∀ j, j < N → t j < 256) ∧ ((I 103 14 = -1 ∧ ∀ j, j < N → I 110 j = nI (t j)) ∨ (I 103 14 = 0 ∧ ∀ j, j < N → I 111 j = nI (t j)))
def bt (t : Nat → Nat) (N a : Nat) : Nat := if a < N then t a else 0
theorem bt_eq {a c : Nat} (hc : 0 < c) : bt t N a = c ↔ a < N ∧ t a = c := by
  unfold bt
  split <;> omega
theorem bt_lt {I : sm_I} (h : mtp t N I) (a : Nat) : bt t N a < 256 := by
  unfold bt
  split
  · exact h.2.2.1 a (by assumption)
  · decide
theorem m_byteAt {I : sm_I} (h : mtp t N I) (d n : Nat) (J : sm_J) (K : Option Value → sm_H → Prop) {a : Nat} (ha : a ≤ N) (hA : I 103 15 = nI a) : sm_Ok d 167 0 [.ref 103] [] (sm_SH n, I, J) K ↔ K (some (.int (nI (bt t N a)))) (sm_SH n, I, J) := by
  obtain ⟨h1, h2, h3, h4⟩ := h
  unfold bt
  by_cases hN : a < N
  · have e1 : ¬ nI N ≤ nI a := nI_ge hN (by omega)
    rcases h4 with ⟨b1, b2⟩ | ⟨b1, b2⟩
    · have e2 : ¬ (0 : Int32) ≤ -1 := by decide
      simp only [z167_0, z167_1, z167_4, z167_5, z167_8, z167_11, z167_12, z167_15, z167_18, z167_19, z167_22, z167_23, z167_26, z167_27, z167_30, z167_31, z167_34, z167_35, z167_38, z167_39, z167_42, z167_43, z167_44, z167_47, z167_48, sm_cti, sm_ctr, sm_ctn, sm_nbi, Option.toList_some, Option.toList_none, List.cons_append, List.nil_append, ne_eq, reduceCtorEq, not_false_eq_true, Nat.reduceLeDiff, kc103, kc110, rf103_10, hA, h2, e1, b1, e2, y_inN (show a < 120 by omega) (by decide), nI_clamp (show a < 2 ^ 31 by omega), b2 a hN, hN, if_true, if_false, not_true_eq_false, not_false_eq_true, and_true, true_and, and_false, false_and, and_self, or_true, true_or, or_false, false_or, reduceIte, iff_self, Int32.add_zero, y_10, Classical.not_not]
    · have e2 : (0 : Int32) ≤ 0 := by decide
      have e3 : (0 : Int32) + nI a = nI a := Int32.zero_add _
      simp only [z167_0, z167_1, z167_4, z167_5, z167_8, z167_11, z167_12, z167_15, z167_18, z167_19, z167_22, z167_23, z167_26, z167_27, z167_30, z167_31, z167_34, z167_35, z167_38, z167_39, z167_42, z167_43, z167_44, z167_47, z167_48, sm_cti, sm_ctr, sm_ctn, sm_nbi, Option.toList_some, Option.toList_none, List.cons_append, List.nil_append, ne_eq, reduceCtorEq, not_false_eq_true, Nat.reduceLeDiff, kc103, kc111, rf103_12, hA, h2, e1, b1, e2, e3, y_inN (show a < 120 by omega) (by decide), nI_clamp (show a < 2 ^ 31 by omega), b2 a hN, hN, if_true, if_false, not_true_eq_false, not_false_eq_true, and_true, true_and, and_false, false_and, and_self, or_true, true_or, or_false, false_or, reduceIte, iff_self, Int32.add_zero, y_10, Classical.not_not]
  · have e1 : nI N ≤ nI a := nI_le (by omega) (by omega)
    simp only [z167_0, z167_1, z167_4, z167_5, z167_8, z167_11, z167_12, z167_15, z167_18, z167_19, z167_22, z167_23, z167_26, z167_27, z167_30, z167_31, z167_34, z167_35, z167_38, z167_39, z167_42, z167_43, z167_44, z167_47, z167_48, sm_cti, sm_ctr, sm_ctn, sm_nbi, Option.toList_some, Option.toList_none, List.cons_append, List.nil_append, ne_eq, reduceCtorEq, not_false_eq_true, Nat.reduceLeDiff, kc103, hA, h2, e1, hN, nI_0, if_true, if_false, not_true_eq_false, not_false_eq_true, and_true, true_and, and_false, false_and, and_self, or_true, true_or, or_false, false_or, reduceIte, iff_self, Int32.add_zero, y_10, Classical.not_not]
theorem m_wrong {I : sm_I} (d n : Nat) (J : sm_J) (K : Option Value → sm_H → Prop) (hF : I 103 17 = -1) : sm_Ok d 168 0 [.ref 103] [] (sm_SH n, I, J) K ↔ K (some (.int 0)) (sm_SH n, sm_uI I 103 17 (I 103 15), J) := by
  have e2 : ¬ (0 : Int32) ≤ -1 := by decide
  simp only [z168_0, z168_1, z168_2, z168_5, z168_8, z168_9, z168_12, z168_15, z168_16, z168_19, z168_22, z168_23, sm_cti, sm_ctr, sm_ctn, sm_nbi, Option.toList_some, Option.toList_none, List.cons_append, List.nil_append, ne_eq, reduceCtorEq, not_false_eq_true, Nat.reduceLeDiff, kc103, hF, e2, if_true, if_false, not_true_eq_false, not_false_eq_true, and_true, true_and, and_false, false_and, and_self, or_true, true_or, or_false, false_or, reduceIte, iff_self, Int32.add_zero, y_10, Classical.not_not]
theorem m_wrongF {I : sm_I} (d n : Nat) (J : sm_J) (K : Option Value → sm_H → Prop) {f : Nat} (hf : f < 2 ^ 31) (hF : I 103 17 = nI f) : sm_Ok d 168 0 [.ref 103] [] (sm_SH n, I, J) K ↔ K (some (.int 0)) (sm_SH n, I, J) := by
  have e2 : (0 : Int32) ≤ nI f := nI_pos' hf
  simp only [z168_0, z168_1, z168_2, z168_5, z168_8, z168_9, z168_12, z168_15, z168_16, z168_19, z168_22, z168_23, sm_cti, sm_ctr, sm_ctn, sm_nbi, Option.toList_some, Option.toList_none, List.cons_append, List.nil_append, ne_eq, reduceCtorEq, not_false_eq_true, Nat.reduceLeDiff, kc103, hF, e2, uI_id hF, if_true, if_false, not_true_eq_false, not_false_eq_true, and_true, true_and, and_false, false_and, and_self, or_true, true_or, or_false, false_or, reduceIte, iff_self, Int32.add_zero, y_10, Classical.not_not]
theorem m_takes {I : sm_I} (h : mtp t N I) (d n : Nat) (J : sm_J) (K : Option Value → sm_H → Prop) {a c : Nat} {cc : Int32} (ec : cc = nI c) (hc : 0 < c) (hc2 : c < 256) (ha : a ≤ N) (hA : I 103 15 = nI a) (hF : I 103 17 = -1) : sm_Ok (d + 1) 169 0 [.ref 103, .int cc] [] (sm_SH n, I, J) K ↔ if a < N ∧ t a = c then K (some (.int 1)) (sm_SH n, sm_uI I 103 15 (nI (a + 1)), J) else K (some (.int 0)) (sm_SH n, I, J) := by
  subst ec
  have e2 : ¬ (0 : Int32) ≤ -1 := by decide
  have hb := bt_lt h a
  have e3 : (nI (bt t N a) = nI c) = (a < N ∧ t a = c) := propext (Iff.trans (nI_eq (by omega) (by omega)) (bt_eq hc))
  simp only [z169_16_0, z169_16_1, z169_28_0, z169_28_1, z169_0, z169_1, z169_4, z169_7, z169_8, z169_11, z169_12, z169_15, z169_16, z169_17, z169_18, z169_19, z169_22, z169_23, z169_24, z169_27, z169_28, sm_cti, sm_ctr, sm_ctn, sm_nbi, Option.toList_some, Option.toList_none, List.cons_append, List.nil_append, ne_eq, reduceCtorEq, not_false_eq_true, Nat.reduceLeDiff, kc103, rc103, hF, e2, m_byteAt h _ _ _ _ ha hA, e3, hA, nI_1, if_true, if_false, not_true_eq_false, not_false_eq_true, and_true, true_and, and_false, false_and, and_self, or_true, true_or, or_false, false_or, reduceIte, iff_self, Int32.add_zero, y_10, Classical.not_not]
theorem m_takesF {I : sm_I} (d n : Nat) (J : sm_J) (K : Option Value → sm_H → Prop) {f : Nat} (c : Int32) (hf : f < 2 ^ 31) (hF : I 103 17 = nI f) : sm_Ok (d + 1) 169 0 [.ref 103, .int c] [] (sm_SH n, I, J) K ↔ K (some (.int 0)) (sm_SH n, I, J) := by
  have e2 : (0 : Int32) ≤ nI f := nI_pos' hf
  simp only [z169_16_0, z169_16_1, z169_28_0, z169_28_1, z169_0, z169_1, z169_4, z169_7, z169_8, z169_11, z169_12, z169_15, z169_16, z169_17, z169_18, z169_19, z169_22, z169_23, z169_24, z169_27, z169_28, sm_cti, sm_ctr, sm_ctn, sm_nbi, Option.toList_some, Option.toList_none, List.cons_append, List.nil_append, ne_eq, reduceCtorEq, not_false_eq_true, Nat.reduceLeDiff, kc103, hF, e2, if_true, if_false, not_true_eq_false, not_false_eq_true, and_true, true_and, and_false, false_and, and_self, or_true, true_or, or_false, false_or, reduceIte, iff_self, Int32.add_zero, y_10, Classical.not_not]
/-- what a reading leaves -/
def mpo (a : Nat) (wr : Bool) (I I' : sm_I) : Prop := (∀ x b, ¬ (x = 103 ∧ (b = 15 ∨ b = 17 ∨ b = 18)) → I' x b = I x b) ∧ I' 103 15 = nI a ∧ (wr = false → I' 103 17 = -1 ∧ I' 103 18 = I 103 18) ∧ (wr = true → I' 103 17 = nI a)
theorem mpo_tp {a : Nat} {wr : Bool} {I I' : sm_I} (h : mpo a wr I I') (ht : mtp t N I) : mtp t N I' := by
  obtain ⟨h1, h2, h3, h4⟩ := ht
  refine ⟨h1, by rw [h.1 _ _ (by omega), h2], h3, ?_⟩
  rcases h4 with ⟨b1, b2⟩ | ⟨b1, b2⟩
  · exact Or.inl ⟨by rw [h.1 _ _ (by omega), b1], fun j hj => by rw [h.1 _ _ (by omega), b2 j hj]⟩
  · exact Or.inr ⟨by rw [h.1 _ _ (by omega), b1], fun j hj => by rw [h.1 _ _ (by omega), b2 j hj]⟩
theorem mpo_nm {a : Nat} {wr : Bool} {I I' : sm_I} (h : mpo a wr I I') : I' 112 = I 112 := funext (fun b => h.1 112 b (by omega))
theorem mpo_tr {a1 a2 : Nat} {wr : Bool} {I I1 I2 : sm_I} (h1 : mpo a1 false I I1) (h2 : mpo a2 wr I1 I2) : mpo a2 wr I I2 :=
  ⟨fun x b hx => by rw [h2.1 x b hx, h1.1 x b hx], h2.2.1, fun hw => ⟨(h2.2.2.1 hw).1, by rw [(h2.2.2.1 hw).2, (h1.2.2.1 rfl).2]⟩, h2.2.2.2⟩
theorem mpo_at {a : Nat} {I : sm_I} (hF : I 103 17 = -1) : mpo a false I (sm_uI I 103 15 (nI a)) :=
  ⟨fun x b hx => uI_o _ _ (by omega), uI_s _ _ _ _, fun _ => ⟨by rw [uI_o _ _ (by omega), hF], uI_o _ _ (by omega)⟩, (fun h => by cases h)⟩
theorem mpo_wr {a : Nat} {I : sm_I} (hA : I 103 15 = nI a) : mpo a true I (sm_uI I 103 17 (nI a)) :=
  ⟨fun x b hx => uI_o _ _ (by omega), by rw [uI_o _ _ (by omega), hA], (fun h => by cases h), fun _ => uI_s _ _ _ _⟩
variable (t N)
def mrd (mi dd : Nat) (args : List Value) (o : Nat) (op : Nat → pR) : Prop := ∀ (d n : Nat) (J : sm_J) (K : Option Value → sm_H → Prop) (I : sm_I) (a : Nat), mtp t N I → a ≤ N → I 103 15 = nI a → I 103 17 = -1 → I 103 18 = nI o →
  (∀ (I' : sm_I) (v : Int32), mpo (op a).1 (op a).2.1 I I' → ((op a).2.1 = false → v = (op a).2.2.2 (I 112)) → K (some (.int v)) (sm_SH n, I', J)) → sm_Ok (d + dd) mi 0 args [] (sm_SH n, I, J) K
variable {t N}
theorem sgs2 {l c : Nat} (h : sgs l c = true) : 0 < c ∧ c < 256 := by
  unfold sgs at h
  split at h <;> simp only [Bool.or_eq_true, beq_iff_eq] at h <;> omega
theorem m_lp170 {dd o : Nat} {sub : Nat → pR} (hs : mrd t N 171 (dd + 2) [.ref 103, .null, .null] o sub) (hg : gp N sub) {I : sm_I} (hT : mtp t N I) (hO : I 103 18 = nI o) (d n : Nat) (J : sm_J) (K : Option Value → sm_H → Prop) : ∀ (k : Nat) (r : pR), N - r.1 ≤ k → r.1 ≤ N → ∀ (I1 : sm_I) (v : Int32) (x2 : Value), mpo r.1 r.2.1 I I1 → (r.2.1 = false → v = r.2.2.2 (I 112)) →
    (∀ (I' : sm_I) (v : Int32), mpo (pl t N (sgs 0) sub k r).1 (pl t N (sgs 0) sub k r).2.1 I I' → ((pl t N (sgs 0) sub k r).2.1 = false → v = (pl t N (sgs 0) sub k r).2.2.2 (I 112)) → K (some (.int v)) (sm_SH n, I', J)) →
    sm_Ok (d + dd + 3) 170 5 [.ref 103, .int v, x2] [] (sm_SH n, I1, J) K
  | k, r, hk, hN, I1, v, x2, hm, hv, hK => by
    have hNN := hT.1
    have tp1 := mpo_tp hm hT
    have ey2 : ¬ (0 : Int32) ≤ -1 := by decide
    by_cases hc : r.2.1 = false ∧ r.1 < N ∧ sgs 0 (t r.1) = true
    · match k, hk, hK with
      | 0, hk, hK => exact absurd hc.2.1 (by omega)
      | k + 1, hk, hK =>
        have hpl : pl t N (sgs 0) sub (k + 1) r = pl t N (sgs 0) sub k ((sub (r.1 + 1)).1, (sub (r.1 + 1)).2.1, r.2.2.1 ++ (sub (r.1 + 1)).2.2.1 ++ [nI (t r.1)], fun g => jn (t r.1) (r.2.2.2 g) ((sub (r.1 + 1)).2.2.2 g)) := by rw [pl, if_pos hc]
        rw [hpl] at hK
        rw [hc.1] at hm
        obtain ⟨u1, u2⟩ := hm.2.2.1 rfl
        have hvr := hv hc.1
        obtain ⟨g1, g2, g3⟩ := hg (r.1 + 1) (by omega)
        have m2 := mpo_tr hm (mpo_at (a := r.1 + 1) u1)
        obtain ⟨s1, s2⟩ := m2.2.2.1 rfl
        have hb := sgs2 hc.2.2
        have hbt : bt t N r.1 = t r.1 := by unfold bt; rw [if_pos hc.2.1]
        have goon : ∀ (K2 : Option Value → sm_H → Prop), (∀ (I3 : sm_I) (u : Int32), mpo (sub (r.1 + 1)).1 (sub (r.1 + 1)).2.1 I I3 → ((sub (r.1 + 1)).2.1 = false → u = (sub (r.1 + 1)).2.2.2 (I 112)) → K2 (some (.int u)) (sm_SH n, I3, J)) → sm_Ok (d + dd + 2) 171 0 [.ref 103, .null, .null] [] (sm_SH n, sm_uI I1 103 15 (nI (r.1 + 1)), J) K2 := fun K2 h2 => hs d n J K2 _ (r.1 + 1) (mpo_tp m2 hT) (by omega) m2.2.1 s1 (by rw [s2, hO]) (fun I3 u m3 hu => h2 I3 u (mpo_tr m2 m3) (by rw [← mpo_nm m2]; exact hu))
        have step : ∀ (I3 : sm_I) (u v' : Int32) (x2 : Value), mpo (sub (r.1 + 1)).1 (sub (r.1 + 1)).2.1 I I3 → ((sub (r.1 + 1)).2.1 = false → u = (sub (r.1 + 1)).2.2.2 (I 112)) → v' = jn (t r.1) v u → sm_Ok (d + dd + 3) 170 5 [.ref 103, .int v', x2] [] (sm_SH n, I3, J) K := fun I3 u v' x2 m3 hu hv' => m_lp170 hs hg hT hO d n J K k ((sub (r.1 + 1)).1, (sub (r.1 + 1)).2.1, r.2.2.1 ++ (sub (r.1 + 1)).2.2.1 ++ [nI (t r.1)], fun g => jn (t r.1) (r.2.2.2 g) ((sub (r.1 + 1)).2.2.2 g)) (by dsimp only; omega) g2 I3 v' x2 m3 (fun hw => by rw [hv', hvr, hu hw]) hK
        have h124 : t r.1 = 124 := by have := hc.2.2; simpa [sgs] using this
        rw [h124] at step
        rw [z170_5]
        simp only [z170_1, z170_4, z170_6, z170_8, z170_11, z170_14, z170_15, z170_18, z170_19, z170_20, z170_23, z170_24, z170_27, z170_28, z170_31, z170_32, z170_33, z170_36, z170_37, sm_cti, sm_ctr, sm_ctn, sm_nbi, Option.toList_some, Option.toList_none, List.cons_append, List.nil_append, ne_eq, reduceCtorEq, not_false_eq_true, Nat.reduceLeDiff, rc103, m_takes tp1 _ _ _ _ (c := 124) (cc := 124) rfl (by decide) (by decide) hN hm.2.1 u1, if_pos (show r.1 < N ∧ t r.1 = 124 from ⟨hc.2.1, h124⟩), if_true, if_false, not_true_eq_false, not_false_eq_true, and_true, true_and, and_false, false_and, and_self, or_true, true_or, or_false, false_or, reduceIte, iff_self, Int32.add_zero, y_10, Classical.not_not]
        refine goon _ (fun I3 u m3 hu => ?_)
        simp only [z170_1, z170_4, z170_6, z170_8, z170_11, z170_14, z170_15, z170_18, z170_19, z170_20, z170_23, z170_24, z170_27, z170_28, z170_31, z170_32, z170_33, z170_36, z170_37, sm_cti, sm_ctr, sm_ctn, sm_nbi, Option.toList_some, Option.toList_none, List.cons_append, List.nil_append, ne_eq, reduceCtorEq, not_false_eq_true, Nat.reduceLeDiff, if_true, if_false, not_true_eq_false, not_false_eq_true, and_true, true_and, and_false, false_and, and_self, or_true, true_or, or_false, false_or, reduceIte, iff_self, Int32.add_zero, y_10, Classical.not_not]
        by_cases hv0 : v = 0 <;> by_cases hu0 : u = 0
        · simp only [hv0, hu0, z170_1, z170_4, z170_6, z170_8, z170_11, z170_14, z170_15, z170_18, z170_19, z170_20, z170_23, z170_24, z170_27, z170_28, z170_31, z170_32, z170_33, z170_36, z170_37, sm_cti, sm_ctr, sm_ctn, sm_nbi, Option.toList_some, Option.toList_none, List.cons_append, List.nil_append, ne_eq, reduceCtorEq, not_false_eq_true, Nat.reduceLeDiff, if_true, if_false, not_true_eq_false, not_false_eq_true, and_true, true_and, and_false, false_and, and_self, or_true, true_or, or_false, false_or, reduceIte, iff_self, Int32.add_zero, y_10, Classical.not_not]
          exact step I3 u _ _ m3 hu (by unfold jn; simp [hv0, hu0])
        · simp only [hv0, hu0, z170_1, z170_4, z170_6, z170_8, z170_11, z170_14, z170_15, z170_18, z170_19, z170_20, z170_23, z170_24, z170_27, z170_28, z170_31, z170_32, z170_33, z170_36, z170_37, sm_cti, sm_ctr, sm_ctn, sm_nbi, Option.toList_some, Option.toList_none, List.cons_append, List.nil_append, ne_eq, reduceCtorEq, not_false_eq_true, Nat.reduceLeDiff, if_true, if_false, not_true_eq_false, not_false_eq_true, and_true, true_and, and_false, false_and, and_self, or_true, true_or, or_false, false_or, reduceIte, iff_self, Int32.add_zero, y_10, Classical.not_not]
          exact step I3 u _ _ m3 hu (by unfold jn; simp [hv0, hu0])
        · simp only [hv0, hu0, z170_1, z170_4, z170_6, z170_8, z170_11, z170_14, z170_15, z170_18, z170_19, z170_20, z170_23, z170_24, z170_27, z170_28, z170_31, z170_32, z170_33, z170_36, z170_37, sm_cti, sm_ctr, sm_ctn, sm_nbi, Option.toList_some, Option.toList_none, List.cons_append, List.nil_append, ne_eq, reduceCtorEq, not_false_eq_true, Nat.reduceLeDiff, if_true, if_false, not_true_eq_false, not_false_eq_true, and_true, true_and, and_false, false_and, and_self, or_true, true_or, or_false, false_or, reduceIte, iff_self, Int32.add_zero, y_10, Classical.not_not]
          exact step I3 u _ _ m3 hu (by unfold jn; simp [hv0, hu0])
        · simp only [hv0, hu0, z170_1, z170_4, z170_6, z170_8, z170_11, z170_14, z170_15, z170_18, z170_19, z170_20, z170_23, z170_24, z170_27, z170_28, z170_31, z170_32, z170_33, z170_36, z170_37, sm_cti, sm_ctr, sm_ctn, sm_nbi, Option.toList_some, Option.toList_none, List.cons_append, List.nil_append, ne_eq, reduceCtorEq, not_false_eq_true, Nat.reduceLeDiff, if_true, if_false, not_true_eq_false, not_false_eq_true, and_true, true_and, and_false, false_and, and_self, or_true, true_or, or_false, false_or, reduceIte, iff_self, Int32.add_zero, y_10, Classical.not_not]
          exact step I3 u _ _ m3 hu (by unfold jn; simp [hv0, hu0])
    · have hpl : pl t N (sgs 0) sub k r = r := by
        match k with
        | 0 => rfl
        | k + 1 => rw [pl, if_neg hc]
      rw [hpl] at hK
      have fin := hK I1 v hm hv
      cases hwr : r.2.1 with
      | true =>
        have wf := hm.2.2.2 hwr
        have w0 : (0 : Int32) ≤ nI r.1 := nI_pos' (by omega)
        rw [z170_5]
        simp only [z170_1, z170_4, z170_6, z170_8, z170_11, z170_14, z170_15, z170_18, z170_19, z170_20, z170_23, z170_24, z170_27, z170_28, z170_31, z170_32, z170_33, z170_36, z170_37, sm_cti, sm_ctr, sm_ctn, sm_nbi, Option.toList_some, Option.toList_none, List.cons_append, List.nil_append, ne_eq, reduceCtorEq, not_false_eq_true, Nat.reduceLeDiff, rc103, m_takesF _ _ _ _ _ (show r.1 < 2 ^ 31 by omega) wf, if_true, if_false, not_true_eq_false, not_false_eq_true, and_true, true_and, and_false, false_and, and_self, or_true, true_or, or_false, false_or, reduceIte, iff_self, Int32.add_zero, y_10, Classical.not_not]
        exact fin
      | false =>
        obtain ⟨u1, u2⟩ := hm.2.2.1 hwr
        rw [z170_5]
        have hn : ¬ (r.1 < N ∧ t r.1 = 124) := fun z => hc ⟨hwr, z.1, by rw [z.2]; decide⟩
        simp only [z170_1, z170_4, z170_6, z170_8, z170_11, z170_14, z170_15, z170_18, z170_19, z170_20, z170_23, z170_24, z170_27, z170_28, z170_31, z170_32, z170_33, z170_36, z170_37, sm_cti, sm_ctr, sm_ctn, sm_nbi, Option.toList_some, Option.toList_none, List.cons_append, List.nil_append, ne_eq, reduceCtorEq, not_false_eq_true, Nat.reduceLeDiff, rc103, m_takes tp1 _ _ _ _ (c := 124) (cc := 124) rfl (by decide) (by decide) hN hm.2.1 u1, if_neg hn, if_true, if_false, not_true_eq_false, not_false_eq_true, and_true, true_and, and_false, false_and, and_self, or_true, true_or, or_false, false_or, reduceIte, iff_self, Int32.add_zero, y_10, Classical.not_not]
        exact fin
  termination_by k => k
theorem m_lp171 {dd o : Nat} {sub : Nat → pR} (hs : mrd t N 172 (dd + 2) [.ref 103, .null, .null, .null] o sub) (hg : gp N sub) {I : sm_I} (hT : mtp t N I) (hO : I 103 18 = nI o) (d n : Nat) (J : sm_J) (K : Option Value → sm_H → Prop) : ∀ (k : Nat) (r : pR), N - r.1 ≤ k → r.1 ≤ N → ∀ (I1 : sm_I) (v : Int32) (x2 : Value), mpo r.1 r.2.1 I I1 → (r.2.1 = false → v = r.2.2.2 (I 112)) →
    (∀ (I' : sm_I) (v : Int32), mpo (pl t N (sgs 1) sub k r).1 (pl t N (sgs 1) sub k r).2.1 I I' → ((pl t N (sgs 1) sub k r).2.1 = false → v = (pl t N (sgs 1) sub k r).2.2.2 (I 112)) → K (some (.int v)) (sm_SH n, I', J)) →
    sm_Ok (d + dd + 3) 171 5 [.ref 103, .int v, x2] [] (sm_SH n, I1, J) K
  | k, r, hk, hN, I1, v, x2, hm, hv, hK => by
    have hNN := hT.1
    have tp1 := mpo_tp hm hT
    have ey2 : ¬ (0 : Int32) ≤ -1 := by decide
    by_cases hc : r.2.1 = false ∧ r.1 < N ∧ sgs 1 (t r.1) = true
    · match k, hk, hK with
      | 0, hk, hK => exact absurd hc.2.1 (by omega)
      | k + 1, hk, hK =>
        have hpl : pl t N (sgs 1) sub (k + 1) r = pl t N (sgs 1) sub k ((sub (r.1 + 1)).1, (sub (r.1 + 1)).2.1, r.2.2.1 ++ (sub (r.1 + 1)).2.2.1 ++ [nI (t r.1)], fun g => jn (t r.1) (r.2.2.2 g) ((sub (r.1 + 1)).2.2.2 g)) := by rw [pl, if_pos hc]
        rw [hpl] at hK
        rw [hc.1] at hm
        obtain ⟨u1, u2⟩ := hm.2.2.1 rfl
        have hvr := hv hc.1
        obtain ⟨g1, g2, g3⟩ := hg (r.1 + 1) (by omega)
        have m2 := mpo_tr hm (mpo_at (a := r.1 + 1) u1)
        obtain ⟨s1, s2⟩ := m2.2.2.1 rfl
        have hb := sgs2 hc.2.2
        have hbt : bt t N r.1 = t r.1 := by unfold bt; rw [if_pos hc.2.1]
        have goon : ∀ (K2 : Option Value → sm_H → Prop), (∀ (I3 : sm_I) (u : Int32), mpo (sub (r.1 + 1)).1 (sub (r.1 + 1)).2.1 I I3 → ((sub (r.1 + 1)).2.1 = false → u = (sub (r.1 + 1)).2.2.2 (I 112)) → K2 (some (.int u)) (sm_SH n, I3, J)) → sm_Ok (d + dd + 2) 172 0 [.ref 103, .null, .null, .null] [] (sm_SH n, sm_uI I1 103 15 (nI (r.1 + 1)), J) K2 := fun K2 h2 => hs d n J K2 _ (r.1 + 1) (mpo_tp m2 hT) (by omega) m2.2.1 s1 (by rw [s2, hO]) (fun I3 u m3 hu => h2 I3 u (mpo_tr m2 m3) (by rw [← mpo_nm m2]; exact hu))
        have step : ∀ (I3 : sm_I) (u v' : Int32) (x2 : Value), mpo (sub (r.1 + 1)).1 (sub (r.1 + 1)).2.1 I I3 → ((sub (r.1 + 1)).2.1 = false → u = (sub (r.1 + 1)).2.2.2 (I 112)) → v' = jn (t r.1) v u → sm_Ok (d + dd + 3) 171 5 [.ref 103, .int v', x2] [] (sm_SH n, I3, J) K := fun I3 u v' x2 m3 hu hv' => m_lp171 hs hg hT hO d n J K k ((sub (r.1 + 1)).1, (sub (r.1 + 1)).2.1, r.2.2.1 ++ (sub (r.1 + 1)).2.2.1 ++ [nI (t r.1)], fun g => jn (t r.1) (r.2.2.2 g) ((sub (r.1 + 1)).2.2.2 g)) (by dsimp only; omega) g2 I3 v' x2 m3 (fun hw => by rw [hv', hvr, hu hw]) hK
        have h38 : t r.1 = 38 := by have := hc.2.2; simpa [sgs] using this
        rw [h38] at step
        rw [z171_5]
        simp only [z171_1, z171_4, z171_6, z171_8, z171_11, z171_14, z171_15, z171_18, z171_19, z171_20, z171_23, z171_24, z171_27, z171_28, z171_31, z171_32, z171_33, z171_36, z171_37, sm_cti, sm_ctr, sm_ctn, sm_nbi, Option.toList_some, Option.toList_none, List.cons_append, List.nil_append, ne_eq, reduceCtorEq, not_false_eq_true, Nat.reduceLeDiff, rc103, m_takes tp1 _ _ _ _ (c := 38) (cc := 38) rfl (by decide) (by decide) hN hm.2.1 u1, if_pos (show r.1 < N ∧ t r.1 = 38 from ⟨hc.2.1, h38⟩), if_true, if_false, not_true_eq_false, not_false_eq_true, and_true, true_and, and_false, false_and, and_self, or_true, true_or, or_false, false_or, reduceIte, iff_self, Int32.add_zero, y_10, Classical.not_not]
        refine goon _ (fun I3 u m3 hu => ?_)
        simp only [z171_1, z171_4, z171_6, z171_8, z171_11, z171_14, z171_15, z171_18, z171_19, z171_20, z171_23, z171_24, z171_27, z171_28, z171_31, z171_32, z171_33, z171_36, z171_37, sm_cti, sm_ctr, sm_ctn, sm_nbi, Option.toList_some, Option.toList_none, List.cons_append, List.nil_append, ne_eq, reduceCtorEq, not_false_eq_true, Nat.reduceLeDiff, if_true, if_false, not_true_eq_false, not_false_eq_true, and_true, true_and, and_false, false_and, and_self, or_true, true_or, or_false, false_or, reduceIte, iff_self, Int32.add_zero, y_10, Classical.not_not]
        by_cases hv0 : v = 0 <;> by_cases hu0 : u = 0
        · simp only [hv0, hu0, z171_1, z171_4, z171_6, z171_8, z171_11, z171_14, z171_15, z171_18, z171_19, z171_20, z171_23, z171_24, z171_27, z171_28, z171_31, z171_32, z171_33, z171_36, z171_37, sm_cti, sm_ctr, sm_ctn, sm_nbi, Option.toList_some, Option.toList_none, List.cons_append, List.nil_append, ne_eq, reduceCtorEq, not_false_eq_true, Nat.reduceLeDiff, if_true, if_false, not_true_eq_false, not_false_eq_true, and_true, true_and, and_false, false_and, and_self, or_true, true_or, or_false, false_or, reduceIte, iff_self, Int32.add_zero, y_10, Classical.not_not]
          exact step I3 u _ _ m3 hu (by unfold jn; simp [hv0, hu0])
        · simp only [hv0, hu0, z171_1, z171_4, z171_6, z171_8, z171_11, z171_14, z171_15, z171_18, z171_19, z171_20, z171_23, z171_24, z171_27, z171_28, z171_31, z171_32, z171_33, z171_36, z171_37, sm_cti, sm_ctr, sm_ctn, sm_nbi, Option.toList_some, Option.toList_none, List.cons_append, List.nil_append, ne_eq, reduceCtorEq, not_false_eq_true, Nat.reduceLeDiff, if_true, if_false, not_true_eq_false, not_false_eq_true, and_true, true_and, and_false, false_and, and_self, or_true, true_or, or_false, false_or, reduceIte, iff_self, Int32.add_zero, y_10, Classical.not_not]
          exact step I3 u _ _ m3 hu (by unfold jn; simp [hv0, hu0])
        · simp only [hv0, hu0, z171_1, z171_4, z171_6, z171_8, z171_11, z171_14, z171_15, z171_18, z171_19, z171_20, z171_23, z171_24, z171_27, z171_28, z171_31, z171_32, z171_33, z171_36, z171_37, sm_cti, sm_ctr, sm_ctn, sm_nbi, Option.toList_some, Option.toList_none, List.cons_append, List.nil_append, ne_eq, reduceCtorEq, not_false_eq_true, Nat.reduceLeDiff, if_true, if_false, not_true_eq_false, not_false_eq_true, and_true, true_and, and_false, false_and, and_self, or_true, true_or, or_false, false_or, reduceIte, iff_self, Int32.add_zero, y_10, Classical.not_not]
          exact step I3 u _ _ m3 hu (by unfold jn; simp [hv0, hu0])
        · simp only [hv0, hu0, z171_1, z171_4, z171_6, z171_8, z171_11, z171_14, z171_15, z171_18, z171_19, z171_20, z171_23, z171_24, z171_27, z171_28, z171_31, z171_32, z171_33, z171_36, z171_37, sm_cti, sm_ctr, sm_ctn, sm_nbi, Option.toList_some, Option.toList_none, List.cons_append, List.nil_append, ne_eq, reduceCtorEq, not_false_eq_true, Nat.reduceLeDiff, if_true, if_false, not_true_eq_false, not_false_eq_true, and_true, true_and, and_false, false_and, and_self, or_true, true_or, or_false, false_or, reduceIte, iff_self, Int32.add_zero, y_10, Classical.not_not]
          exact step I3 u _ _ m3 hu (by unfold jn; simp [hv0, hu0])
    · have hpl : pl t N (sgs 1) sub k r = r := by
        match k with
        | 0 => rfl
        | k + 1 => rw [pl, if_neg hc]
      rw [hpl] at hK
      have fin := hK I1 v hm hv
      cases hwr : r.2.1 with
      | true =>
        have wf := hm.2.2.2 hwr
        have w0 : (0 : Int32) ≤ nI r.1 := nI_pos' (by omega)
        rw [z171_5]
        simp only [z171_1, z171_4, z171_6, z171_8, z171_11, z171_14, z171_15, z171_18, z171_19, z171_20, z171_23, z171_24, z171_27, z171_28, z171_31, z171_32, z171_33, z171_36, z171_37, sm_cti, sm_ctr, sm_ctn, sm_nbi, Option.toList_some, Option.toList_none, List.cons_append, List.nil_append, ne_eq, reduceCtorEq, not_false_eq_true, Nat.reduceLeDiff, rc103, m_takesF _ _ _ _ _ (show r.1 < 2 ^ 31 by omega) wf, if_true, if_false, not_true_eq_false, not_false_eq_true, and_true, true_and, and_false, false_and, and_self, or_true, true_or, or_false, false_or, reduceIte, iff_self, Int32.add_zero, y_10, Classical.not_not]
        exact fin
      | false =>
        obtain ⟨u1, u2⟩ := hm.2.2.1 hwr
        rw [z171_5]
        have hn : ¬ (r.1 < N ∧ t r.1 = 38) := fun z => hc ⟨hwr, z.1, by rw [z.2]; decide⟩
        simp only [z171_1, z171_4, z171_6, z171_8, z171_11, z171_14, z171_15, z171_18, z171_19, z171_20, z171_23, z171_24, z171_27, z171_28, z171_31, z171_32, z171_33, z171_36, z171_37, sm_cti, sm_ctr, sm_ctn, sm_nbi, Option.toList_some, Option.toList_none, List.cons_append, List.nil_append, ne_eq, reduceCtorEq, not_false_eq_true, Nat.reduceLeDiff, rc103, m_takes tp1 _ _ _ _ (c := 38) (cc := 38) rfl (by decide) (by decide) hN hm.2.1 u1, if_neg hn, if_true, if_false, not_true_eq_false, not_false_eq_true, and_true, true_and, and_false, false_and, and_self, or_true, true_or, or_false, false_or, reduceIte, iff_self, Int32.add_zero, y_10, Classical.not_not]
        exact fin
  termination_by k => k
theorem m_lp173 {dd o : Nat} {sub : Nat → pR} (hs : mrd t N 174 (dd + 2) [.ref 103, .null, .null, .null] o sub) (hg : gp N sub) {I : sm_I} (hT : mtp t N I) (hO : I 103 18 = nI o) (d n : Nat) (J : sm_J) (K : Option Value → sm_H → Prop) : ∀ (k : Nat) (r : pR), N - r.1 ≤ k → r.1 ≤ N → ∀ (I1 : sm_I) (v : Int32) (x2 x3 : Value), mpo r.1 r.2.1 I I1 → (r.2.1 = false → v = r.2.2.2 (I 112)) →
    (∀ (I' : sm_I) (v : Int32), mpo (pl t N (sgs 3) sub k r).1 (pl t N (sgs 3) sub k r).2.1 I I' → ((pl t N (sgs 3) sub k r).2.1 = false → v = (pl t N (sgs 3) sub k r).2.2.2 (I 112)) → K (some (.int v)) (sm_SH n, I', J)) →
    sm_Ok (d + dd + 3) 173 5 [.ref 103, .int v, x2, x3] [] (sm_SH n, I1, J) K
  | k, r, hk, hN, I1, v, x2, x3, hm, hv, hK => by
    have hNN := hT.1
    have tp1 := mpo_tp hm hT
    have ey2 : ¬ (0 : Int32) ≤ -1 := by decide
    by_cases hc : r.2.1 = false ∧ r.1 < N ∧ sgs 3 (t r.1) = true
    · match k, hk, hK with
      | 0, hk, hK => exact absurd hc.2.1 (by omega)
      | k + 1, hk, hK =>
        have hpl : pl t N (sgs 3) sub (k + 1) r = pl t N (sgs 3) sub k ((sub (r.1 + 1)).1, (sub (r.1 + 1)).2.1, r.2.2.1 ++ (sub (r.1 + 1)).2.2.1 ++ [nI (t r.1)], fun g => jn (t r.1) (r.2.2.2 g) ((sub (r.1 + 1)).2.2.2 g)) := by rw [pl, if_pos hc]
        rw [hpl] at hK
        rw [hc.1] at hm
        obtain ⟨u1, u2⟩ := hm.2.2.1 rfl
        have hvr := hv hc.1
        obtain ⟨g1, g2, g3⟩ := hg (r.1 + 1) (by omega)
        have m2 := mpo_tr hm (mpo_at (a := r.1 + 1) u1)
        obtain ⟨s1, s2⟩ := m2.2.2.1 rfl
        have hb := sgs2 hc.2.2
        have hbt : bt t N r.1 = t r.1 := by unfold bt; rw [if_pos hc.2.1]
        have goon : ∀ (K2 : Option Value → sm_H → Prop), (∀ (I3 : sm_I) (u : Int32), mpo (sub (r.1 + 1)).1 (sub (r.1 + 1)).2.1 I I3 → ((sub (r.1 + 1)).2.1 = false → u = (sub (r.1 + 1)).2.2.2 (I 112)) → K2 (some (.int u)) (sm_SH n, I3, J)) → sm_Ok (d + dd + 2) 174 0 [.ref 103, .null, .null, .null] [] (sm_SH n, sm_uI I1 103 15 (nI (r.1 + 1)), J) K2 := fun K2 h2 => hs d n J K2 _ (r.1 + 1) (mpo_tp m2 hT) (by omega) m2.2.1 s1 (by rw [s2, hO]) (fun I3 u m3 hu => h2 I3 u (mpo_tr m2 m3) (by rw [← mpo_nm m2]; exact hu))
        have step : ∀ (I3 : sm_I) (u v' : Int32) (x2 x3 : Value), mpo (sub (r.1 + 1)).1 (sub (r.1 + 1)).2.1 I I3 → ((sub (r.1 + 1)).2.1 = false → u = (sub (r.1 + 1)).2.2.2 (I 112)) → v' = jn (t r.1) v u → sm_Ok (d + dd + 3) 173 5 [.ref 103, .int v', x2, x3] [] (sm_SH n, I3, J) K := fun I3 u v' x2 x3 m3 hu hv' => m_lp173 hs hg hT hO d n J K k ((sub (r.1 + 1)).1, (sub (r.1 + 1)).2.1, r.2.2.1 ++ (sub (r.1 + 1)).2.2.1 ++ [nI (t r.1)], fun g => jn (t r.1) (r.2.2.2 g) ((sub (r.1 + 1)).2.2.2 g)) (by dsimp only; omega) g2 I3 v' x2 x3 m3 (fun hw => by rw [hv', hvr, hu hw]) hK
        have hh : t r.1 = 43 ∨ t r.1 = 45 := by have := hc.2.2; simpa [sgs] using this
        have e43 : (nI (t r.1) = 43) = (t r.1 = 43) := propext (nI_eq (b := 43) (by omega) (by decide))
        have e45 : (nI (t r.1) = 45) = (t r.1 = 45) := propext (nI_eq (b := 45) (by omega) (by decide))
        rw [z173_5]
        simp only [z173_1, z173_4, z173_6, z173_9, z173_12, z173_13, z173_16, z173_18, z173_21, z173_22, z173_25, z173_27, z173_30, z173_31, z173_34, z173_36, z173_39, z173_40, z173_43, z173_44, z173_45, z173_46, z173_47, z173_50, z173_51, z173_52, z173_55, z173_56, z173_59, z173_60, z173_61, z173_64, z173_65, z173_66, z173_67, z173_70, z173_71, z173_72, z173_73, z173_74, z173_77, z173_78, sm_cti, sm_ctr, sm_ctn, sm_nbi, Option.toList_some, Option.toList_none, List.cons_append, List.nil_append, ne_eq, reduceCtorEq, not_false_eq_true, Nat.reduceLeDiff, kc103, rc103, u1, ey2, m_byteAt tp1 _ _ _ _ hN hm.2.1, hbt, e43, e45, hm.2.1, nI_1, if_true, if_false, not_true_eq_false, not_false_eq_true, and_true, true_and, and_false, false_and, and_self, or_true, true_or, or_false, false_or, reduceIte, iff_self, Int32.add_zero, y_10, Classical.not_not]
        rcases hh with h1 | h1
        · simp only [h1, z173_1, z173_4, z173_6, z173_9, z173_12, z173_13, z173_16, z173_18, z173_21, z173_22, z173_25, z173_27, z173_30, z173_31, z173_34, z173_36, z173_39, z173_40, z173_43, z173_44, z173_45, z173_46, z173_47, z173_50, z173_51, z173_52, z173_55, z173_56, z173_59, z173_60, z173_61, z173_64, z173_65, z173_66, z173_67, z173_70, z173_71, z173_72, z173_73, z173_74, z173_77, z173_78, sm_cti, sm_ctr, sm_ctn, sm_nbi, Option.toList_some, Option.toList_none, List.cons_append, List.nil_append, ne_eq, reduceCtorEq, not_false_eq_true, Nat.reduceLeDiff, kc103, rc103, hm.2.1, nI_1, if_true, if_false, not_true_eq_false, not_false_eq_true, and_true, true_and, and_false, false_and, and_self, or_true, true_or, or_false, false_or, reduceIte, iff_self, Int32.add_zero, y_10, Classical.not_not]
          refine goon _ (fun I3 u m3 hu => ?_)
          simp only [z173_1, z173_4, z173_6, z173_9, z173_12, z173_13, z173_16, z173_18, z173_21, z173_22, z173_25, z173_27, z173_30, z173_31, z173_34, z173_36, z173_39, z173_40, z173_43, z173_44, z173_45, z173_46, z173_47, z173_50, z173_51, z173_52, z173_55, z173_56, z173_59, z173_60, z173_61, z173_64, z173_65, z173_66, z173_67, z173_70, z173_71, z173_72, z173_73, z173_74, z173_77, z173_78, sm_cti, sm_ctr, sm_ctn, sm_nbi, Option.toList_some, Option.toList_none, List.cons_append, List.nil_append, ne_eq, reduceCtorEq, not_false_eq_true, Nat.reduceLeDiff, if_true, if_false, not_true_eq_false, not_false_eq_true, and_true, true_and, and_false, false_and, and_self, or_true, true_or, or_false, false_or, reduceIte, iff_self, Int32.add_zero, y_10, Classical.not_not]
          exact step I3 u _ _ _ m3 hu (by unfold jn; simp [h1])
        · have h43 : ¬ t r.1 = 43 := by omega
          have d5 : ¬ (45 : Nat) = 43 := by decide
          simp only [h1, d5, z173_1, z173_4, z173_6, z173_9, z173_12, z173_13, z173_16, z173_18, z173_21, z173_22, z173_25, z173_27, z173_30, z173_31, z173_34, z173_36, z173_39, z173_40, z173_43, z173_44, z173_45, z173_46, z173_47, z173_50, z173_51, z173_52, z173_55, z173_56, z173_59, z173_60, z173_61, z173_64, z173_65, z173_66, z173_67, z173_70, z173_71, z173_72, z173_73, z173_74, z173_77, z173_78, sm_cti, sm_ctr, sm_ctn, sm_nbi, Option.toList_some, Option.toList_none, List.cons_append, List.nil_append, ne_eq, reduceCtorEq, not_false_eq_true, Nat.reduceLeDiff, kc103, rc103, hm.2.1, nI_1, if_true, if_false, not_true_eq_false, not_false_eq_true, and_true, true_and, and_false, false_and, and_self, or_true, true_or, or_false, false_or, reduceIte, iff_self, Int32.add_zero, y_10, Classical.not_not]
          refine goon _ (fun I3 u m3 hu => ?_)
          simp only [z173_1, z173_4, z173_6, z173_9, z173_12, z173_13, z173_16, z173_18, z173_21, z173_22, z173_25, z173_27, z173_30, z173_31, z173_34, z173_36, z173_39, z173_40, z173_43, z173_44, z173_45, z173_46, z173_47, z173_50, z173_51, z173_52, z173_55, z173_56, z173_59, z173_60, z173_61, z173_64, z173_65, z173_66, z173_67, z173_70, z173_71, z173_72, z173_73, z173_74, z173_77, z173_78, sm_cti, sm_ctr, sm_ctn, sm_nbi, Option.toList_some, Option.toList_none, List.cons_append, List.nil_append, ne_eq, reduceCtorEq, not_false_eq_true, Nat.reduceLeDiff, if_true, if_false, not_true_eq_false, not_false_eq_true, and_true, true_and, and_false, false_and, and_self, or_true, true_or, or_false, false_or, reduceIte, iff_self, Int32.add_zero, y_10, Classical.not_not]
          exact step I3 u _ _ _ m3 hu (by unfold jn; simp [h1])
    · have hpl : pl t N (sgs 3) sub k r = r := by
        match k with
        | 0 => rfl
        | k + 1 => rw [pl, if_neg hc]
      rw [hpl] at hK
      have fin := hK I1 v hm hv
      cases hwr : r.2.1 with
      | true =>
        have wf := hm.2.2.2 hwr
        have w0 : (0 : Int32) ≤ nI r.1 := nI_pos' (by omega)
        rw [z173_5]
        simp only [z173_1, z173_4, z173_6, z173_9, z173_12, z173_13, z173_16, z173_18, z173_21, z173_22, z173_25, z173_27, z173_30, z173_31, z173_34, z173_36, z173_39, z173_40, z173_43, z173_44, z173_45, z173_46, z173_47, z173_50, z173_51, z173_52, z173_55, z173_56, z173_59, z173_60, z173_61, z173_64, z173_65, z173_66, z173_67, z173_70, z173_71, z173_72, z173_73, z173_74, z173_77, z173_78, sm_cti, sm_ctr, sm_ctn, sm_nbi, Option.toList_some, Option.toList_none, List.cons_append, List.nil_append, ne_eq, reduceCtorEq, not_false_eq_true, Nat.reduceLeDiff, kc103, wf, w0, if_true, if_false, not_true_eq_false, not_false_eq_true, and_true, true_and, and_false, false_and, and_self, or_true, true_or, or_false, false_or, reduceIte, iff_self, Int32.add_zero, y_10, Classical.not_not]
        exact fin
      | false =>
        obtain ⟨u1, u2⟩ := hm.2.2.1 hwr
        rw [z173_5]
        have hbl := bt_lt hT r.1
        have n43 : ¬ nI (bt t N r.1) = 43 := fun z => by
          have z2 := (nI_eq (b := 43) (by omega) (by decide)).mp z
          have z3 := (bt_eq (by decide)).mp z2
          exact hc ⟨hwr, z3.1, by rw [z3.2]; decide⟩
        have n45 : ¬ nI (bt t N r.1) = 45 := fun z => by
          have z2 := (nI_eq (b := 45) (by omega) (by decide)).mp z
          have z3 := (bt_eq (by decide)).mp z2
          exact hc ⟨hwr, z3.1, by rw [z3.2]; decide⟩
        simp only [z173_1, z173_4, z173_6, z173_9, z173_12, z173_13, z173_16, z173_18, z173_21, z173_22, z173_25, z173_27, z173_30, z173_31, z173_34, z173_36, z173_39, z173_40, z173_43, z173_44, z173_45, z173_46, z173_47, z173_50, z173_51, z173_52, z173_55, z173_56, z173_59, z173_60, z173_61, z173_64, z173_65, z173_66, z173_67, z173_70, z173_71, z173_72, z173_73, z173_74, z173_77, z173_78, sm_cti, sm_ctr, sm_ctn, sm_nbi, Option.toList_some, Option.toList_none, List.cons_append, List.nil_append, ne_eq, reduceCtorEq, not_false_eq_true, Nat.reduceLeDiff, kc103, rc103, u1, ey2, m_byteAt tp1 _ _ _ _ hN hm.2.1, n43, n45, if_true, if_false, not_true_eq_false, not_false_eq_true, and_true, true_and, and_false, false_and, and_self, or_true, true_or, or_false, false_or, reduceIte, iff_self, Int32.add_zero, y_10, Classical.not_not]
        exact fin
  termination_by k => k
theorem m_lp174 {dd o : Nat} {sub : Nat → pR} (hs : mrd t N 176 (dd + 2) [.ref 103, .null, .null, .null, .null] o sub) (hg : gp N sub) {I : sm_I} (hT : mtp t N I) (hO : I 103 18 = nI o) (d n : Nat) (J : sm_J) (K : Option Value → sm_H → Prop) : ∀ (k : Nat) (r : pR), N - r.1 ≤ k → r.1 ≤ N → ∀ (I1 : sm_I) (v : Int32) (x3 : Value), mpo r.1 r.2.1 I I1 → (r.2.1 = false → v = r.2.2.2 (I 112)) →
    (∀ (I' : sm_I) (v : Int32), mpo (pl t N (sgs 4) sub k r).1 (pl t N (sgs 4) sub k r).2.1 I I' → ((pl t N (sgs 4) sub k r).2.1 = false → v = (pl t N (sgs 4) sub k r).2.2.2 (I 112)) → K (some (.int v)) (sm_SH n, I', J)) →
    sm_Ok (d + dd + 3) 174 10 [.ref 103, .int v, .int (nI (bt t N r.1)), x3] [] (sm_SH n, I1, J) K
  | k, r, hk, hN, I1, v, x3, hm, hv, hK => by
    have hNN := hT.1
    have tp1 := mpo_tp hm hT
    have ey2 : ¬ (0 : Int32) ≤ -1 := by decide
    by_cases hc : r.2.1 = false ∧ r.1 < N ∧ sgs 4 (t r.1) = true
    · match k, hk, hK with
      | 0, hk, hK => exact absurd hc.2.1 (by omega)
      | k + 1, hk, hK =>
        have hpl : pl t N (sgs 4) sub (k + 1) r = pl t N (sgs 4) sub k ((sub (r.1 + 1)).1, (sub (r.1 + 1)).2.1, r.2.2.1 ++ (sub (r.1 + 1)).2.2.1 ++ [nI (t r.1)], fun g => jn (t r.1) (r.2.2.2 g) ((sub (r.1 + 1)).2.2.2 g)) := by rw [pl, if_pos hc]
        rw [hpl] at hK
        rw [hc.1] at hm
        obtain ⟨u1, u2⟩ := hm.2.2.1 rfl
        have hvr := hv hc.1
        obtain ⟨g1, g2, g3⟩ := hg (r.1 + 1) (by omega)
        have m2 := mpo_tr hm (mpo_at (a := r.1 + 1) u1)
        obtain ⟨s1, s2⟩ := m2.2.2.1 rfl
        have hb := sgs2 hc.2.2
        have hbt : bt t N r.1 = t r.1 := by unfold bt; rw [if_pos hc.2.1]
        have goon : ∀ (K2 : Option Value → sm_H → Prop), (∀ (I3 : sm_I) (u : Int32), mpo (sub (r.1 + 1)).1 (sub (r.1 + 1)).2.1 I I3 → ((sub (r.1 + 1)).2.1 = false → u = (sub (r.1 + 1)).2.2.2 (I 112)) → K2 (some (.int u)) (sm_SH n, I3, J)) → sm_Ok (d + dd + 2) 176 0 [.ref 103, .null, .null, .null, .null] [] (sm_SH n, sm_uI I1 103 15 (nI (r.1 + 1)), J) K2 := fun K2 h2 => hs d n J K2 _ (r.1 + 1) (mpo_tp m2 hT) (by omega) m2.2.1 s1 (by rw [s2, hO]) (fun I3 u m3 hu => h2 I3 u (mpo_tr m2 m3) (by rw [← mpo_nm m2]; exact hu))
        have step : ∀ (I3 : sm_I) (u v' : Int32) (x3 : Value), mpo (sub (r.1 + 1)).1 (sub (r.1 + 1)).2.1 I I3 → ((sub (r.1 + 1)).2.1 = false → u = (sub (r.1 + 1)).2.2.2 (I 112)) → v' = jn (t r.1) v u → sm_Ok (d + dd + 3) 174 10 [.ref 103, .int v', .int (nI (bt t N (sub (r.1 + 1)).1)), x3] [] (sm_SH n, I3, J) K := fun I3 u v' x3 m3 hu hv' => m_lp174 hs hg hT hO d n J K k ((sub (r.1 + 1)).1, (sub (r.1 + 1)).2.1, r.2.2.1 ++ (sub (r.1 + 1)).2.2.1 ++ [nI (t r.1)], fun g => jn (t r.1) (r.2.2.2 g) ((sub (r.1 + 1)).2.2.2 g)) (by dsimp only; omega) g2 I3 v' x3 m3 (fun hw => by rw [hv', hvr, hu hw]) hK
        have hh : t r.1 = 42 ∨ t r.1 = 47 ∨ t r.1 = 37 := by have := hc.2.2; simpa [sgs, or_assoc] using this
        have e42 : (nI (t r.1) = 42) = (t r.1 = 42) := propext (nI_eq (b := 42) (by omega) (by decide))
        have e47 : (nI (t r.1) = 47) = (t r.1 = 47) := propext (nI_eq (b := 47) (by omega) (by decide))
        have e37 : (nI (t r.1) = 37) = (t r.1 = 37) := propext (nI_eq (b := 37) (by omega) (by decide))
        have tp3 := fun (I3 : sm_I) (m3 : mpo (sub (r.1 + 1)).1 (sub (r.1 + 1)).2.1 I I3) => mpo_tp m3 hT
        rw [z174_10]
        simp only [z174_1, z174_4, z174_5, z174_6, z174_9, z174_11, z174_14, z174_17, z174_18, z174_20, z174_23, z174_24, z174_26, z174_29, z174_30, z174_32, z174_35, z174_36, z174_37, z174_40, z174_41, z174_42, z174_45, z174_46, z174_49, z174_50, z174_51, z174_53, z174_56, z174_57, z174_58, z174_59, z174_62, z174_63, z174_66, z174_67, z174_70, z174_71, z174_73, z174_76, z174_77, z174_78, z174_79, z174_82, z174_83, z174_84, z174_85, z174_86, z174_87, z174_90, z174_91, z174_94, z174_95, sm_cti, sm_ctr, sm_ctn, sm_nbi, Option.toList_some, Option.toList_none, List.cons_append, List.nil_append, ne_eq, reduceCtorEq, not_false_eq_true, Nat.reduceLeDiff, kc103, rc103, u1, ey2, hbt, e42, e47, e37, hm.2.1, nI_1, if_true, if_false, not_true_eq_false, not_false_eq_true, and_true, true_and, and_false, false_and, and_self, or_true, true_or, or_false, false_or, reduceIte, iff_self, Int32.add_zero, y_10, Classical.not_not]
        have fin : sm_Ok (d + dd + 3) 174 35 [.ref 103, .int v, .int (nI (t r.1)), x3] [] (sm_SH n, I1, J) K := by
          simp only [z174_1, z174_4, z174_5, z174_6, z174_9, z174_11, z174_14, z174_17, z174_18, z174_20, z174_23, z174_24, z174_26, z174_29, z174_30, z174_32, z174_35, z174_36, z174_37, z174_40, z174_41, z174_42, z174_45, z174_46, z174_49, z174_50, z174_51, z174_53, z174_56, z174_57, z174_58, z174_59, z174_62, z174_63, z174_66, z174_67, z174_70, z174_71, z174_73, z174_76, z174_77, z174_78, z174_79, z174_82, z174_83, z174_84, z174_85, z174_86, z174_87, z174_90, z174_91, z174_94, z174_95, sm_cti, sm_ctr, sm_ctn, sm_nbi, Option.toList_some, Option.toList_none, List.cons_append, List.nil_append, ne_eq, reduceCtorEq, not_false_eq_true, Nat.reduceLeDiff, kc103, rc103, hm.2.1, nI_1, if_true, if_false, not_true_eq_false, not_false_eq_true, and_true, true_and, and_false, false_and, and_self, or_true, true_or, or_false, false_or, reduceIte, iff_self, Int32.add_zero, y_10, Classical.not_not]
          refine goon _ (fun I3 u m3 hu => ?_)
          have by3 := fun d K => m_byteAt (tp3 I3 m3) d n J K g2 m3.2.1
          simp only [z174_1, z174_4, z174_5, z174_6, z174_9, z174_11, z174_14, z174_17, z174_18, z174_20, z174_23, z174_24, z174_26, z174_29, z174_30, z174_32, z174_35, z174_36, z174_37, z174_40, z174_41, z174_42, z174_45, z174_46, z174_49, z174_50, z174_51, z174_53, z174_56, z174_57, z174_58, z174_59, z174_62, z174_63, z174_66, z174_67, z174_70, z174_71, z174_73, z174_76, z174_77, z174_78, z174_79, z174_82, z174_83, z174_84, z174_85, z174_86, z174_87, z174_90, z174_91, z174_94, z174_95, sm_cti, sm_ctr, sm_ctn, sm_nbi, Option.toList_some, Option.toList_none, List.cons_append, List.nil_append, ne_eq, reduceCtorEq, not_false_eq_true, Nat.reduceLeDiff, rc103, e42, e47, by3, if_true, if_false, not_true_eq_false, not_false_eq_true, and_true, true_and, and_false, false_and, and_self, or_true, true_or, or_false, false_or, reduceIte, iff_self, Int32.add_zero, y_10, Classical.not_not]
          rcases hh with h1 | h1 | h1
          · simp only [h1, z174_1, z174_4, z174_5, z174_6, z174_9, z174_11, z174_14, z174_17, z174_18, z174_20, z174_23, z174_24, z174_26, z174_29, z174_30, z174_32, z174_35, z174_36, z174_37, z174_40, z174_41, z174_42, z174_45, z174_46, z174_49, z174_50, z174_51, z174_53, z174_56, z174_57, z174_58, z174_59, z174_62, z174_63, z174_66, z174_67, z174_70, z174_71, z174_73, z174_76, z174_77, z174_78, z174_79, z174_82, z174_83, z174_84, z174_85, z174_86, z174_87, z174_90, z174_91, z174_94, z174_95, sm_cti, sm_ctr, sm_ctn, sm_nbi, Option.toList_some, Option.toList_none, List.cons_append, List.nil_append, ne_eq, reduceCtorEq, not_false_eq_true, Nat.reduceLeDiff, rc103, by3, if_true, if_false, not_true_eq_false, not_false_eq_true, and_true, true_and, and_false, false_and, and_self, or_true, true_or, or_false, false_or, reduceIte, iff_self, Int32.add_zero, y_10, Classical.not_not]
            exact step I3 u _ _ m3 hu (by unfold jn; simp [h1])
          · have d5 : ¬ (47 : Nat) = 42 := by decide
            by_cases hu0 : u = 0
            · simp only [h1, d5, hu0, z174_1, z174_4, z174_5, z174_6, z174_9, z174_11, z174_14, z174_17, z174_18, z174_20, z174_23, z174_24, z174_26, z174_29, z174_30, z174_32, z174_35, z174_36, z174_37, z174_40, z174_41, z174_42, z174_45, z174_46, z174_49, z174_50, z174_51, z174_53, z174_56, z174_57, z174_58, z174_59, z174_62, z174_63, z174_66, z174_67, z174_70, z174_71, z174_73, z174_76, z174_77, z174_78, z174_79, z174_82, z174_83, z174_84, z174_85, z174_86, z174_87, z174_90, z174_91, z174_94, z174_95, sm_cti, sm_ctr, sm_ctn, sm_nbi, Option.toList_some, Option.toList_none, List.cons_append, List.nil_append, ne_eq, reduceCtorEq, not_false_eq_true, Nat.reduceLeDiff, rc103, by3, if_true, if_false, not_true_eq_false, not_false_eq_true, and_true, true_and, and_false, false_and, and_self, or_true, true_or, or_false, false_or, reduceIte, iff_self, Int32.add_zero, y_10, Classical.not_not]
              exact step I3 u _ _ m3 hu (by unfold jn; simp [h1, hu0])
            · simp only [h1, d5, hu0, z174_1, z174_4, z174_5, z174_6, z174_9, z174_11, z174_14, z174_17, z174_18, z174_20, z174_23, z174_24, z174_26, z174_29, z174_30, z174_32, z174_35, z174_36, z174_37, z174_40, z174_41, z174_42, z174_45, z174_46, z174_49, z174_50, z174_51, z174_53, z174_56, z174_57, z174_58, z174_59, z174_62, z174_63, z174_66, z174_67, z174_70, z174_71, z174_73, z174_76, z174_77, z174_78, z174_79, z174_82, z174_83, z174_84, z174_85, z174_86, z174_87, z174_90, z174_91, z174_94, z174_95, sm_cti, sm_ctr, sm_ctn, sm_nbi, Option.toList_some, Option.toList_none, List.cons_append, List.nil_append, ne_eq, reduceCtorEq, not_false_eq_true, Nat.reduceLeDiff, rc103, by3, if_true, if_false, not_true_eq_false, not_false_eq_true, and_true, true_and, and_false, false_and, and_self, or_true, true_or, or_false, false_or, reduceIte, iff_self, Int32.add_zero, y_10, Classical.not_not]
              exact step I3 u _ _ m3 hu (by unfold jn; simp [h1, hu0])
          · have d5 : ¬ (37 : Nat) = 42 := by decide
            have d6 : ¬ (37 : Nat) = 47 := by decide
            by_cases hu0 : u = 0
            · simp only [h1, d5, d6, hu0, z174_1, z174_4, z174_5, z174_6, z174_9, z174_11, z174_14, z174_17, z174_18, z174_20, z174_23, z174_24, z174_26, z174_29, z174_30, z174_32, z174_35, z174_36, z174_37, z174_40, z174_41, z174_42, z174_45, z174_46, z174_49, z174_50, z174_51, z174_53, z174_56, z174_57, z174_58, z174_59, z174_62, z174_63, z174_66, z174_67, z174_70, z174_71, z174_73, z174_76, z174_77, z174_78, z174_79, z174_82, z174_83, z174_84, z174_85, z174_86, z174_87, z174_90, z174_91, z174_94, z174_95, sm_cti, sm_ctr, sm_ctn, sm_nbi, Option.toList_some, Option.toList_none, List.cons_append, List.nil_append, ne_eq, reduceCtorEq, not_false_eq_true, Nat.reduceLeDiff, rc103, by3, if_true, if_false, not_true_eq_false, not_false_eq_true, and_true, true_and, and_false, false_and, and_self, or_true, true_or, or_false, false_or, reduceIte, iff_self, Int32.add_zero, y_10, Classical.not_not]
              exact step I3 u _ _ m3 hu (by unfold jn; simp [h1, hu0])
            · simp only [h1, d5, d6, hu0, z174_1, z174_4, z174_5, z174_6, z174_9, z174_11, z174_14, z174_17, z174_18, z174_20, z174_23, z174_24, z174_26, z174_29, z174_30, z174_32, z174_35, z174_36, z174_37, z174_40, z174_41, z174_42, z174_45, z174_46, z174_49, z174_50, z174_51, z174_53, z174_56, z174_57, z174_58, z174_59, z174_62, z174_63, z174_66, z174_67, z174_70, z174_71, z174_73, z174_76, z174_77, z174_78, z174_79, z174_82, z174_83, z174_84, z174_85, z174_86, z174_87, z174_90, z174_91, z174_94, z174_95, sm_cti, sm_ctr, sm_ctn, sm_nbi, Option.toList_some, Option.toList_none, List.cons_append, List.nil_append, ne_eq, reduceCtorEq, not_false_eq_true, Nat.reduceLeDiff, rc103, by3, if_true, if_false, not_true_eq_false, not_false_eq_true, and_true, true_and, and_false, false_and, and_self, or_true, true_or, or_false, false_or, reduceIte, iff_self, Int32.add_zero, y_10, Classical.not_not]
              exact step I3 u _ _ m3 hu (by unfold jn; simp [h1, hu0])
        simp only [z174_1, z174_4, z174_5, z174_6, z174_9, z174_11, z174_14, z174_17, z174_18, z174_20, z174_23, z174_24, z174_26, z174_29, z174_30, z174_32, z174_35, z174_36, z174_37, z174_40, z174_41, z174_42, z174_45, z174_46, z174_49, z174_50, z174_51, z174_53, z174_56, z174_57, z174_58, z174_59, z174_62, z174_63, z174_66, z174_67, z174_70, z174_71, z174_73, z174_76, z174_77, z174_78, z174_79, z174_82, z174_83, z174_84, z174_85, z174_86, z174_87, z174_90, z174_91, z174_94, z174_95, sm_cti, sm_ctr, sm_ctn, sm_nbi, Option.toList_some, Option.toList_none, List.cons_append, List.nil_append, ne_eq, reduceCtorEq, not_false_eq_true, Nat.reduceLeDiff, kc103, rc103, hm.2.1, nI_1, if_true, if_false, not_true_eq_false, not_false_eq_true, and_true, true_and, and_false, false_and, and_self, or_true, true_or, or_false, false_or, reduceIte, iff_self, Int32.add_zero, y_10, Classical.not_not] at fin
        rcases hh with h1 | h1 | h1
        · simpa only [h1, z174_1, z174_4, z174_5, z174_6, z174_9, z174_11, z174_14, z174_17, z174_18, z174_20, z174_23, z174_24, z174_26, z174_29, z174_30, z174_32, z174_35, z174_36, z174_37, z174_40, z174_41, z174_42, z174_45, z174_46, z174_49, z174_50, z174_51, z174_53, z174_56, z174_57, z174_58, z174_59, z174_62, z174_63, z174_66, z174_67, z174_70, z174_71, z174_73, z174_76, z174_77, z174_78, z174_79, z174_82, z174_83, z174_84, z174_85, z174_86, z174_87, z174_90, z174_91, z174_94, z174_95, sm_cti, sm_ctr, sm_ctn, sm_nbi, Option.toList_some, Option.toList_none, List.cons_append, List.nil_append, ne_eq, reduceCtorEq, not_false_eq_true, Nat.reduceLeDiff, kc103, rc103, hm.2.1, nI_1, if_true, if_false, not_true_eq_false, not_false_eq_true, and_true, true_and, and_false, false_and, and_self, or_true, true_or, or_false, false_or, reduceIte, iff_self, Int32.add_zero, y_10, Classical.not_not] using fin
        · have d5 : ¬ (47 : Nat) = 42 := by decide
          simpa only [h1, d5, z174_1, z174_4, z174_5, z174_6, z174_9, z174_11, z174_14, z174_17, z174_18, z174_20, z174_23, z174_24, z174_26, z174_29, z174_30, z174_32, z174_35, z174_36, z174_37, z174_40, z174_41, z174_42, z174_45, z174_46, z174_49, z174_50, z174_51, z174_53, z174_56, z174_57, z174_58, z174_59, z174_62, z174_63, z174_66, z174_67, z174_70, z174_71, z174_73, z174_76, z174_77, z174_78, z174_79, z174_82, z174_83, z174_84, z174_85, z174_86, z174_87, z174_90, z174_91, z174_94, z174_95, sm_cti, sm_ctr, sm_ctn, sm_nbi, Option.toList_some, Option.toList_none, List.cons_append, List.nil_append, ne_eq, reduceCtorEq, not_false_eq_true, Nat.reduceLeDiff, kc103, rc103, hm.2.1, nI_1, if_true, if_false, not_true_eq_false, not_false_eq_true, and_true, true_and, and_false, false_and, and_self, or_true, true_or, or_false, false_or, reduceIte, iff_self, Int32.add_zero, y_10, Classical.not_not] using fin
        · have d5 : ¬ (37 : Nat) = 42 := by decide
          have d6 : ¬ (37 : Nat) = 47 := by decide
          simpa only [h1, d5, d6, z174_1, z174_4, z174_5, z174_6, z174_9, z174_11, z174_14, z174_17, z174_18, z174_20, z174_23, z174_24, z174_26, z174_29, z174_30, z174_32, z174_35, z174_36, z174_37, z174_40, z174_41, z174_42, z174_45, z174_46, z174_49, z174_50, z174_51, z174_53, z174_56, z174_57, z174_58, z174_59, z174_62, z174_63, z174_66, z174_67, z174_70, z174_71, z174_73, z174_76, z174_77, z174_78, z174_79, z174_82, z174_83, z174_84, z174_85, z174_86, z174_87, z174_90, z174_91, z174_94, z174_95, sm_cti, sm_ctr, sm_ctn, sm_nbi, Option.toList_some, Option.toList_none, List.cons_append, List.nil_append, ne_eq, reduceCtorEq, not_false_eq_true, Nat.reduceLeDiff, kc103, rc103, hm.2.1, nI_1, if_true, if_false, not_true_eq_false, not_false_eq_true, and_true, true_and, and_false, false_and, and_self, or_true, true_or, or_false, false_or, reduceIte, iff_self, Int32.add_zero, y_10, Classical.not_not] using fin
    · have hpl : pl t N (sgs 4) sub k r = r := by
        match k with
        | 0 => rfl
        | k + 1 => rw [pl, if_neg hc]
      rw [hpl] at hK
      have fin := hK I1 v hm hv
      cases hwr : r.2.1 with
      | true =>
        have wf := hm.2.2.2 hwr
        have w0 : (0 : Int32) ≤ nI r.1 := nI_pos' (by omega)
        rw [z174_10]
        simp only [z174_1, z174_4, z174_5, z174_6, z174_9, z174_11, z174_14, z174_17, z174_18, z174_20, z174_23, z174_24, z174_26, z174_29, z174_30, z174_32, z174_35, z174_36, z174_37, z174_40, z174_41, z174_42, z174_45, z174_46, z174_49, z174_50, z174_51, z174_53, z174_56, z174_57, z174_58, z174_59, z174_62, z174_63, z174_66, z174_67, z174_70, z174_71, z174_73, z174_76, z174_77, z174_78, z174_79, z174_82, z174_83, z174_84, z174_85, z174_86, z174_87, z174_90, z174_91, z174_94, z174_95, sm_cti, sm_ctr, sm_ctn, sm_nbi, Option.toList_some, Option.toList_none, List.cons_append, List.nil_append, ne_eq, reduceCtorEq, not_false_eq_true, Nat.reduceLeDiff, kc103, wf, w0, if_true, if_false, not_true_eq_false, not_false_eq_true, and_true, true_and, and_false, false_and, and_self, or_true, true_or, or_false, false_or, reduceIte, iff_self, Int32.add_zero, y_10, Classical.not_not]
        exact fin
      | false =>
        obtain ⟨u1, u2⟩ := hm.2.2.1 hwr
        rw [z174_10]
        have hbl := bt_lt hT r.1
        have n42 : ¬ nI (bt t N r.1) = 42 := fun z => by
          have z2 := (nI_eq (b := 42) (by omega) (by decide)).mp z
          have z3 := (bt_eq (by decide)).mp z2
          exact hc ⟨hwr, z3.1, by rw [z3.2]; decide⟩
        have n47 : ¬ nI (bt t N r.1) = 47 := fun z => by
          have z2 := (nI_eq (b := 47) (by omega) (by decide)).mp z
          have z3 := (bt_eq (by decide)).mp z2
          exact hc ⟨hwr, z3.1, by rw [z3.2]; decide⟩
        have n37 : ¬ nI (bt t N r.1) = 37 := fun z => by
          have z2 := (nI_eq (b := 37) (by omega) (by decide)).mp z
          have z3 := (bt_eq (by decide)).mp z2
          exact hc ⟨hwr, z3.1, by rw [z3.2]; decide⟩
        simp only [z174_1, z174_4, z174_5, z174_6, z174_9, z174_11, z174_14, z174_17, z174_18, z174_20, z174_23, z174_24, z174_26, z174_29, z174_30, z174_32, z174_35, z174_36, z174_37, z174_40, z174_41, z174_42, z174_45, z174_46, z174_49, z174_50, z174_51, z174_53, z174_56, z174_57, z174_58, z174_59, z174_62, z174_63, z174_66, z174_67, z174_70, z174_71, z174_73, z174_76, z174_77, z174_78, z174_79, z174_82, z174_83, z174_84, z174_85, z174_86, z174_87, z174_90, z174_91, z174_94, z174_95, sm_cti, sm_ctr, sm_ctn, sm_nbi, Option.toList_some, Option.toList_none, List.cons_append, List.nil_append, ne_eq, reduceCtorEq, not_false_eq_true, Nat.reduceLeDiff, kc103, rc103, u1, ey2, m_byteAt tp1 _ _ _ _ hN hm.2.1, n42, n47, n37, if_true, if_false, not_true_eq_false, not_false_eq_true, and_true, true_and, and_false, false_and, and_self, or_true, true_or, or_false, false_or, reduceIte, iff_self, Int32.add_zero, y_10, Classical.not_not]
        exact fin
  termination_by k => k
end
