/-! an evening of the class -/
section
variable {P D : Nat} {f a b : Nat → Nat} {lo : Option ((Nat → Nat) × Nat)}
theorem cFo_f {I I' : sm_I} (h : cFo P D f a b I) (hf : ∀ x c, 34 ≤ x → x < 40 → I' x c = I x c) : cFo P D f a b I' := by
  obtain ⟨h1, h2, h3, h4, h5⟩ := h
  exact ⟨by rw [hf _ _ (by omega) (by omega), h1], by rw [hf _ _ (by omega) (by omega), h2], by rw [hf _ _ (by omega) (by omega), h3], fun p hp => ⟨by rw [hf _ _ (by omega) (by omega), (h4 p hp).1], by rw [hf _ _ (by omega) (by omega), (h4 p hp).2.1], by rw [hf _ _ (by omega) (by omega), (h4 p hp).2.2]⟩, fun e he => ⟨by rw [hf _ _ (by omega) (by omega), (h5 e he).1], by rw [hf _ _ (by omega) (by omega), (h5 e he).2]⟩⟩
theorem cLw_f {I I' : sm_I} (h : cLw lo I) (hf : ∀ x c, 27 ≤ x → x < 29 → I' x c = I x c) : cLw lo I' := by
  unfold cLw at h ⊢
  match lo with
  | none => exact (hf _ _ (by omega) (by omega)).trans h
  | some tn =>
    obtain ⟨h1, h2, h3, h4, h5, h6⟩ := h
    exact ⟨h1, h2, h3, h4, by rw [hf _ _ (by omega) (by omega), h5], fun j hj => by rw [hf _ _ (by omega) (by omega), h6 j hj]⟩
theorem cTa_f {q : Nat} {g : Nat → Nat} {I I' : sm_I} (h : cTa q g I) (hf : ∀ x c, q ≤ x → x < q + 4 → I' x c = I x c) : cTa q g I' := by
  obtain ⟨h1, h2, h3⟩ := h
  exact ⟨fun p hp => ⟨by rw [hf _ _ (by omega) (by omega), (h1 p hp).1], by rw [hf _ _ (by omega) (by omega), (h1 p hp).2]⟩, fun e he => by rw [hf _ _ (by omega) (by omega), h2 e he], by rw [hf _ _ (by omega) (by omega), h3]⟩
theorem y_sum_cnt {F : Nat → Int32} {p : Nat → Bool} : ∀ k, (∀ j, j < k → F j = if p j = true then 1 else 0) → y_sum F k = nI (cnt p k)
  | 0, _ => rfl
  | k + 1, h => by
    show y_sum F k + F k = nI (cnt p k + (if p k = true then 1 else 0))
    rw [y_sum_cnt k (fun j hj => h j (by omega)), h k (by omega), ← nI_add]
    by_cases hp : p k = true
    · rw [if_pos hp, if_pos hp]
      rfl
    · rw [if_neg hp, if_neg hp]
      rfl
theorem f_house (hb : bdf P D f a b) {p : Nat} (hp : p < 8) : f p ≤ 15 := by
  have := hb.2.2.1 p (by omega)
  unfold top at this
  rw [if_pos hp] at this
  exact this
theorem f_clash (hb : bdf P D f a b) : f 52 ≤ 15 := hb.2.2.1 52 (by decide)
theorem f_any (hb : bdf P D f a b) {k : Nat} (hk : k < 54) : f k ≤ 999 := Nat.le_trans (hb.2.2.1 k hk) (top_le k)
theorem c_near (hb : bdf P D f a b) {I : sm_I} (hF : cFo P D f a b I) {o : Nat} (ho : o < 8) : y_sum (y_on (I 35) (I 34 8) o) P = nI (cnt (nrp f o) P) := by
  have h8 := hb.1
  refine y_sum_cnt P (fun j hj => ?_)
  unfold y_on nrp
  rw [(hF.2.2.2.1 j (by omega)).1, (hF.2.2.2.1 o ho).1, hF.2.2.1]
  have h1 := f_house hb (show j < 8 by omega)
  have h2 := f_house hb ho
  have h3 := f_clash hb
  have e := nb_c (x := f j) (y := f o) (c := f 52) (by omega) (by omega) (by omega)
  simp only [e, decide_eq_true_eq]
theorem c_othersNear (hb : bdf P D f a b) {I : sm_I} (hF : cFo P D f a b I) {o : Nat} (ho : o < 8) (d n : Nat) (J : sm_J) (K : Option Value → sm_H → Prop) : sm_Ok (d + 1) 11 0 [.ref 34, .int (nI o), .null, .null] [] (sm_SH n, I, J) K ↔ K (some (.int (nI (cnt (nrp f o) P)))) (sm_SH n, I, J) := by
  rw [y_othersNear d n I J K hF.1 hb.1 ho, c_near hb hF ho]
theorem c_movedBy (hb : bdf P D f a b) {I : sm_I} (hF : cFo P D f a b I) (hL : cLw lo I) {e : Nat} (he : e < D) (m s v : Nat) (d n : Nat) (J : sm_J) (K : Option Value → sm_H → Prop)
    (hK : ∀ I', (∀ x c, ¬ (x = 29 ∨ x = 30) → I' x c = I x c) → K (some (.int (nI (mvb P f a b lo e m s v)))) (sm_SH n, I', J)) :
    sm_Ok (d + 2) 13 0 [.ref 34, .int (nI e), .int (nI m), .int (nI s), .int (nI v), .null, .null, .null, .null] [] (sm_SH n, I, J) K := by
  obtain ⟨b1, b2, b3, b4⟩ := id hb
  obtain ⟨c1, c2, c3⟩ := b4 e he
  obtain ⟨F1, F2, F3, F4, F5⟩ := id hF
  have i38 := (F5 e he).1
  have i39 := (F5 e he).2
  have i36 := (F4 (b e) (by omega)).2.1
  have i37 := (F4 (a e) (by omega)).2.2
  have hv := f_any hb (show 8 + b e < 54 by omega)
  have hh := f_any hb (show 16 + a e < 54 by omega)
  unfold mvb lval at hK
  match lo, hL, hK with
  | none, hL, hK =>
    have h3 : ¬ (0 : Int32) < 0 := by decide
    have l0 : I 27 3 = 0 := hL
    have e3 : nI (f (8 + b e)) + nI (f (16 + a e)) / 3 = nI (f (8 + b e) + f (16 + a e) / 3) := by
      have ed : nI (f (16 + a e)) / 3 = nI (f (16 + a e) / 3) := by
        have : ∀ x, x < 1000 → nI x / 3 = nI (x / 3) := by decide +kernel
        exact this _ (by omega)
      rw [ed, nI_add]
    have t3 : ¬ (3 : Int32) = 0 := by decide
    have hle : (0 : Int32) ≤ 0 := by decide
    simp only [z13_0, z13_1, z13_4, z13_5, z13_6, z13_8, z13_9, z13_12, z13_13, z13_16, z13_17, z13_18, z13_19, z13_21, z13_22, z13_25, z13_27, z13_28, z13_30, z13_31, z13_34, z13_37, z13_40, z13_41, z13_44, z13_46, z13_48, z13_49, z13_50, z13_51, z13_53, z13_56, z13_58, z13_61, z13_64, z13_66, z13_68, z13_69, z13_70, z13_71, z13_73, z13_74, z13_76, z13_78, z13_81, z13_84, z25_12_0, z25_12_1, z25_0, z25_1, z25_4, z25_7, z25_8, z25_11, z25_12, sm_cti, sm_ctr, sm_ctn, sm_nbi, Option.toList_some, Option.toList_none, List.cons_append, List.nil_append, ne_eq, reduceCtorEq, not_false_eq_true, Nat.reduceLeDiff, kc34, kc27, kc36, kc37, kc38, kc39, rf34_1, rf34_2, rf34_3, rf34_4, rf34_5, rc27, rc34, i38, i39, i36, i37, l0, h3, hle, t3, e3, y_inN (show e < 12 by omega) (by decide), nI_clamp (show e < 2 ^ 31 by omega), y_inN (show a e < 8 by omega) (by decide), nI_clamp (show a e < 2 ^ 31 by omega), y_inN (show b e < 8 by omega) (by decide), nI_clamp (show b e < 2 ^ 31 by omega), cl99_c, if_true, if_false, not_true_eq_false, not_false_eq_true, and_true, true_and, and_false, false_and, and_self, or_true, true_or, or_false, false_or, reduceIte, iff_self, Int32.add_zero, y_10, Classical.not_not]
    exact hK I (fun x c _ => rfl)
  | some tn, hL, hK =>
    have hL' : clw tn.1 tn.2 I := hL
    have hp := (pt_gp tn.1 tn.2).2 hL'.2.2.1
    have hlen : (0 : Int32) < nI (pt tn.1 tn.2).2.2.1.length := nI_lt (a := 0) hp.2.2 (by
      have := hL'.1
      have := hL'.2.2.2.1
      omega)
    have hlen2 : ¬ nI (pt tn.1 tn.2).2.2.1.length ≤ 0 := Int32.not_le.mpr hlen
    have l0 := hL'.2.2.2.2.1
    simp only [z13_0, z13_1, z13_4, z13_5, z13_6, z13_8, z13_9, z13_12, z13_13, z13_16, z13_17, z13_18, z13_19, z13_21, z13_22, z13_25, z13_27, z13_28, z13_30, z13_31, z13_34, z13_37, z13_40, z13_41, z13_44, z13_46, z13_48, z13_49, z13_50, z13_51, z13_53, z13_56, z13_58, z13_61, z13_64, z13_66, z13_68, z13_69, z13_70, z13_71, z13_73, z13_74, z13_76, z13_78, z13_81, z13_84, z25_12_0, z25_12_1, z25_0, z25_1, z25_4, z25_7, z25_8, z25_11, z25_12, sm_cti, sm_ctr, sm_ctn, sm_nbi, Option.toList_some, Option.toList_none, List.cons_append, List.nil_append, ne_eq, reduceCtorEq, not_false_eq_true, Nat.reduceLeDiff, kc34, kc27, kc36, kc37, kc38, kc39, rf34_1, rf34_2, rf34_3, rf34_4, rf34_5, rc27, rc34, i38, i39, i36, i37, l0, hlen2, y_inN (show e < 12 by omega) (by decide), nI_clamp (show e < 2 ^ 31 by omega), y_inN (show a e < 8 by omega) (by decide), nI_clamp (show a e < 2 ^ 31 by omega), y_inN (show b e < 8 by omega) (by decide), nI_clamp (show b e < 2 ^ 31 by omega), c_othersNear hb hF (show a e < 8 by omega), if_true, if_false, not_true_eq_false, not_false_eq_true, and_true, true_and, and_false, false_and, and_self, or_true, true_or, or_false, false_or, reduceIte, iff_self, Int32.add_zero, y_10, Classical.not_not]
    refine c_tell hL' d n J _ _ _ _ _ _ _ (fun I' f' => ?_)
    simp only [z13_0, z13_1, z13_4, z13_5, z13_6, z13_8, z13_9, z13_12, z13_13, z13_16, z13_17, z13_18, z13_19, z13_21, z13_22, z13_25, z13_27, z13_28, z13_30, z13_31, z13_34, z13_37, z13_40, z13_41, z13_44, z13_46, z13_48, z13_49, z13_50, z13_51, z13_53, z13_56, z13_58, z13_61, z13_64, z13_66, z13_68, z13_69, z13_70, z13_71, z13_73, z13_74, z13_76, z13_78, z13_81, z13_84, sm_cti, sm_ctr, sm_ctn, sm_nbi, Option.toList_some, Option.toList_none, List.cons_append, List.nil_append, ne_eq, reduceCtorEq, not_false_eq_true, Nat.reduceLeDiff, cl99_c, if_true, if_false, not_true_eq_false, not_false_eq_true, and_true, true_and, and_false, false_and, and_self, or_true, true_or, or_false, false_or, reduceIte, iff_self, Int32.add_zero, y_10, Classical.not_not]
    exact hK I' f'
theorem c_movedTo (hb : bdf P D f a b) {I : sm_I} (hF : cFo P D f a b I) (hL : cLw lo I) {e : Nat} (he : e < D) {m : Nat} (hm : m ≤ 99) (s v : Nat) (d n : Nat) (J : sm_J) (K : Option Value → sm_H → Prop)
    (hK : ∀ I', (∀ x c, ¬ (x = 29 ∨ x = 30) → I' x c = I x c) → K (some (.int (nI (mvt P f a b lo e m s v)))) (sm_SH n, I', J)) :
    sm_Ok (d + 3) 14 0 [.ref 34, .int (nI e), .int (nI m), .int (nI s), .int (nI v)] [] (sm_SH n, I, J) K := by
  have h9 := mvb_le P f a b lo e m s v
  simp only [z14_0, z14_2, z14_3, z14_4, z14_5, z14_6, z14_7, z14_9, z14_12, z14_13, z14_16, sm_cti, sm_ctr, sm_ctn, sm_nbi, Option.toList_some, Option.toList_none, List.cons_append, List.nil_append, ne_eq, reduceCtorEq, not_false_eq_true, Nat.reduceLeDiff, rc34, if_true, if_false, not_true_eq_false, not_false_eq_true, and_true, true_and, and_false, false_and, and_self, or_true, true_or, or_false, false_or, reduceIte, iff_self, Int32.add_zero, y_10, Classical.not_not]
  refine c_movedBy hb hF hL he m s v d n J _ (fun I' f' => ?_)
  have e1 : (if nI m + nI (mvb P f a b lo e m s v) < 99 then nI m + nI (mvb P f a b lo e m s v) else 99) = nI (mvt P f a b lo e m s v) := by
    rw [nI_add]
    exact nI_min (a := 99) (b := m + mvb P f a b lo e m s v) (by decide) (by omega)
  simp only [z14_0, z14_2, z14_3, z14_4, z14_5, z14_6, z14_7, z14_9, z14_12, z14_13, z14_16, sm_cti, sm_ctr, sm_ctn, sm_nbi, Option.toList_some, Option.toList_none, List.cons_append, List.nil_append, ne_eq, reduceCtorEq, not_false_eq_true, Nat.reduceLeDiff, e1, if_true, if_false, not_true_eq_false, not_false_eq_true, and_true, true_and, and_false, false_and, and_self, or_true, true_or, or_false, false_or, reduceIte, iff_self, Int32.add_zero, y_10, Classical.not_not]
  exact hK I' f'
theorem c_payment (hb : bdf P D f a b) {I : sm_I} (hF : cFo P D f a b I) {q : Nat} (hq : tq q) {g : Nat → Nat} (hg : bdg g) (hT : cTa q g I) {e : Nat} (he : e < D) {m : Nat} (hm : m ≤ 99) (d n : Nat) (J : sm_J) (K : Option Value → sm_H → Prop) :
    sm_Ok (d + 1) 16 0 [.ref 34, .ref q, .int (nI e), .int (nI m)] [] (sm_SH n, I, J) K ↔ K (some (.int (nI (if m < 20 then 0 else min (m / 10) (min (g (40 + e)) (g (24 + a e))))))) (sm_SH n, I, J) := by
  obtain ⟨b1, b2, b3, b4⟩ := id hb
  obtain ⟨c1, c2, c3⟩ := b4 e he
  obtain ⟨F1, F2, F3, F4, F5⟩ := id hF
  obtain ⟨k1, k2, k3, k4, k5, k6, k7⟩ := tq_k hq
  have i38 := (F5 e he).1
  have is := hT.2.1 e (by omega)
  have ip := (hT.1 (a e) (by omega)).1
  have g1 := hg (40 + e) (by omega) (by omega) (by omega)
  have g2 := hg (24 + a e) (by omega) (by omega) (by omega)
  have t1 := top_le (40 + e)
  have t2 := top_le (24 + a e)
  have e20 : (nI m < 20) = (m < 20) := propext (nI_ltI (b := 20) (by omega) (by decide))
  have e20' : ((20 : Int32) ≤ nI m) = (¬ m < 20) := propext (Iff.trans (nI_leI (a := 20) (by decide) (by omega)) (by omega))
  have ed : nI m / 10 = nI (m / 10) := by
    have : ∀ x, x < 100 → nI x / 10 = nI (x / 10) := by decide +kernel
    exact this _ (by omega)
  have t10 : ¬ (10 : Int32) = 0 := by decide
  have q0 : ¬ q + 3 = 0 := by omega
  have q1 : ¬ q + 1 = 0 := by omega
  have e1 : (if nI (g (24 + a e)) < nI (g (40 + e)) then nI (g (24 + a e)) else nI (g (40 + e))) = nI (min (g (40 + e)) (g (24 + a e))) := nI_min (by omega) (by omega)
  have e2 : (if nI (min (g (40 + e)) (g (24 + a e))) < nI (m / 10) then nI (min (g (40 + e)) (g (24 + a e))) else nI (m / 10)) = nI (min (m / 10) (min (g (40 + e)) (g (24 + a e)))) := nI_min (by omega) (by omega)
  simp only [z16_0, z16_1, z16_3, z16_6, z16_7, z16_10, z16_11, z16_13, z16_14, z16_15, z16_16, z16_17, z16_20, z16_23, z15_0, z15_1, z15_4, z15_5, z15_6, z15_7, z15_10, z15_11, z15_14, z15_15, z15_16, z15_17, z15_20, sm_cti, sm_ctr, sm_ctn, sm_nbi, Option.toList_some, Option.toList_none, List.cons_append, List.nil_append, ne_eq, reduceCtorEq, not_false_eq_true, Nat.reduceLeDiff, kc34, kc38, rf34_3, rc34, k1, k2, k4, k5, k7, q0, q1, i38, is, ip, e20, e20', ed, t10, e1, e2, y_inN (show e < 12 by omega) (by decide), nI_clamp (show e < 2 ^ 31 by omega), y_inN (show a e < 8 by omega) (by decide), nI_clamp (show a e < 2 ^ 31 by omega), if_true, if_false, not_true_eq_false, not_false_eq_true, and_true, true_and, and_false, false_and, and_self, or_true, true_or, or_false, false_or, reduceIte, iff_self, Int32.add_zero, y_10, Classical.not_not]
  by_cases h : m < 20
  · simp only [h, nI_0, if_true, if_false, not_true_eq_false, not_false_eq_true, and_true, true_and, and_false, false_and, and_self, or_true, true_or, or_false, false_or, reduceIte, iff_self, Int32.add_zero, y_10, Classical.not_not]
  · simp only [h, if_true, if_false, not_true_eq_false, not_false_eq_true, and_true, true_and, and_false, false_and, and_self, or_true, true_or, or_false, false_or, reduceIte, iff_self, Int32.add_zero, y_10, Classical.not_not]
end
