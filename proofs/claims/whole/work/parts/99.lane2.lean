/-! lane: the class plans -/
theorem tb_and0 (x y : Int32) : (x &&& y = 0) ↔ ∀ i, i < 32 → tb x i = true → ¬ tb y i = true := by
  constructor
  · intro h i hi h1 h2
    have h3 : tb (x &&& y) i = tb 0 i := by rw [h]
    rw [tb_and, tb_0, h1, h2] at h3
    exact absurd h3 (by decide)
  · intro h
    apply tb_ext
    intro i hi
    rw [tb_and, tb_0]
    cases h1 : tb x i with
    | false => rfl
    | true =>
      have h2 := h i hi h1
      cases h3 : tb y i with
      | false => rfl
      | true => exact absurd h3 h2
/-- who is sung to on an evening -/
def sgb (f A : Nat → Nat) (t : Nat) : Nat → Int32
  | 0 => 0
  | k + 1 => if ¬ f (40 + k) = 0 ∧ A k = t then sgb f A t k ||| (1 <<< (nI k &&& 31)) else sgb f A t k
theorem sgb_s {f A : Nat → Nat} {t k : Nat} : sgb f A t (k + 1) = if ¬ f (40 + k) = 0 ∧ A k = t then sgb f A t k ||| (1 <<< (nI k &&& 31)) else sgb f A t k := rfl
theorem sgb_tb {f A : Nat → Nat} {t : Nat} : ∀ {e : Nat}, e ≤ 12 → ∀ i, i < 32 → (tb (sgb f A t e) i = true ↔ i < e ∧ ¬ f (40 + i) = 0 ∧ A i = t)
  | 0, _, i, _ => by
    show tb 0 i = true ↔ _
    rw [tb_0]
    exact ⟨fun z => absurd z (by decide), fun z => absurd z.1 (Nat.not_lt_zero _)⟩
  | k + 1, h, i, hi => by
    have ih := sgb_tb (f := f) (A := A) (t := t) (e := k) (by omega) i hi
    rw [sgb_s]
    by_cases hk : ¬ f (40 + k) = 0 ∧ A k = t
    · rw [if_pos hk, tb_or, Bool.or_eq_true, ih, tb_bit0 k (by omega) i hi, decide_eq_true_iff]
      constructor
      · rintro (h1 | rfl)
        · exact ⟨by omega, h1.2⟩
        · exact ⟨by omega, hk⟩
      · rintro ⟨h1, h2⟩
        by_cases e1 : i = k
        · exact Or.inr e1
        · exact Or.inl ⟨by omega, h2⟩
    · rw [if_neg hk, ih]
      constructor
      · rintro ⟨h1, h2⟩
        exact ⟨by omega, h2⟩
      · rintro ⟨h1, h2⟩
        by_cases e1 : i = k
        · subst e1
          exact absurd h2 hk
        · exact ⟨by omega, h2⟩
theorem sgb_congr {f A A' : Nat → Nat} {t : Nat} : ∀ {e : Nat}, (∀ o, o < e → A o = A' o) → sgb f A t e = sgb f A' t e
  | 0, _ => rfl
  | k + 1, h => by rw [sgb_s, sgb_s, sgb_congr (fun o ho => h o (by omega)), h k (by omega)]
theorem sg_ok {f a b A : Nat → Nat} {D e t : Nat} (hD : D ≤ 12) (he : e < D) : (sgb f A t e &&& cls f a b e D = 0) = (okt f a b A e t = true) := by
  apply propext
  rw [tb_and0, okt_iff]
  constructor
  · intro h o ho h1 h2 h3
    exact h o (by omega) ((sgb_tb (by omega) o (by omega)).mpr ⟨ho, h1, h2⟩) ((tb_cls hD o (by omega)).mpr ⟨by omega, by omega, CL_sym h3⟩)
  · intro h i hi h1 h2
    obtain ⟨i1, i2, i3⟩ := (sgb_tb (by omega) i hi).mp h1
    obtain ⟨j1, j2, j3⟩ := (tb_cls hD i hi).mp h2
    exact h i i1 i2 i3 (CL_sym j3)
theorem ow_bit {f : Nat → Nat} {D e : Nat} (hD : D ≤ 12) (he : e < D) : (ow f D &&& (1 <<< (nI e &&& 31)) = 0) = (f (40 + e) = 0) := by
  apply propext
  rw [tb_and0]
  constructor
  · intro h
    apply Classical.byContradiction
    intro h0
    refine h e (by omega) ?_ ?_
    · rw [tb_ow hD e (by omega)]
      simp [he, h0]
    · rw [tb_bit0 e (by omega) e (by omega)]
      simp
  · intro h i hi h1 h2
    rw [tb_bit0 e (by omega) i hi, decide_eq_true_iff] at h2
    subst h2
    rw [tb_ow hD i hi] at h1
    simp [h] at h1
theorem sgb_back {f A : Nat → Nat} {t e : Nat} (he : e < 12) : (sgb f A t e ||| (1 <<< (nI e &&& 31))) &&& ((1 <<< (nI e &&& 31)) ^^^ (-1)) = sgb f A t e := by
  apply tb_ext
  intro i hi
  rw [tb_clr _ (by omega) hi, tb_or, tb_bit0 e (by omega) i hi]
  by_cases h : i = e
  · subst h
    have : tb (sgb f A t i) i = false := by
      cases hx : tb (sgb f A t i) i with
      | false => rfl
      | true =>
        have := ((sgb_tb (by omega) i hi).mp hx).1
        omega
    rw [this]
    simp
  · simp [h]
def ros (res : Option (Nat → Nat)) : Int32 := match res with
  | some _ => 1
  | none => 0
section
variable {P D : Nat} {f a b : Nat → Nat}
def plp (f : Nat → Nat) (D e : Nat) (A : Nat → Nat) (res : Option (Nat → Nat)) (I' : sm_I) : Prop := match res with
  | some B => ∀ o, o < D → ¬ f (40 + o) = 0 → I' 81 o = nI (B o)
  | none => (∀ t, t < 12 → I' 83 t = sgb f A t e) ∧ ∀ o, o < e → ¬ f (40 + o) = 0 → I' 81 o = nI (A o)
theorem c_pl_in {I : sm_I} (hD : D ≤ 12) (h4 : I 80 4 = ow f D) (hc : ∀ j, j < D → I 82 j = cls f a b j D) {m w e u : Nat} {A : Nat → Nat} (hm : m ≤ 12) (he : e < D) (hu : u ≤ e) (hA : ∀ o, A o ≤ 12) (h0 : ¬ f (40 + e) = 0) (d n : Nat) (J : sm_J) (K : Option Value → sm_H → Prop)
    (H : ∀ t, t < m → t ≤ u → ∀ (I1 : sm_I) (K : Option Value → sm_H → Prop), (∀ x c, ¬ (x = 81 ∨ x = 83) → I1 x c = I x c) → (∀ s, s < 12 → I1 83 s = sgb f (fv A e t) s (e + 1)) → (∀ o, o < e + 1 → ¬ f (40 + o) = 0 → I1 81 o = nI (fv A e t o)) →
      (∀ I', (∀ x c, ¬ (x = 81 ∨ x = 83) → I' x c = I x c) → plp f D (e + 1) (fv A e t) (pln f a b m w (e + 1) (max u (t + 1)) (fv A e t)) I' → K (some (.int (ros (pln f a b m w (e + 1) (max u (t + 1)) (fv A e t))))) (sm_SH n, I', J)) →
      sm_Ok (d + w) 82 0 [.ref 80, .int (nI (e + 1)), .int (nI (max u (t + 1))), .int (nI m), .null, .null] [] (sm_SH n, I1, J) K) : ∀ (r t : Nat), t + r = min (u + 1) m → ∀ I1 : sm_I, (∀ x c, ¬ (x = 81 ∨ x = 83) → I1 x c = I x c) → (∀ s, s < 12 → I1 83 s = sgb f A s e) → (∀ o, o < e → ¬ f (40 + o) = 0 → I1 81 o = nI (A o)) →
    (∀ I', (∀ x c, ¬ (x = 81 ∨ x = 83) → I' x c = I x c) → plp f D e A (trl (fun t => pln f a b m w (e + 1) (max u (t + 1)) (fv A e t)) (okt f a b A e) r t) I' → K (some (.int (ros (trl (fun t => pln f a b m w (e + 1) (max u (t + 1)) (fv A e t)) (okt f a b A e) r t)))) (sm_SH n, I', J)) →
    sm_Ok (d + w + 1) 82 41 [.ref 80, .int (nI e), .int (nI u), .int (nI m), .int (1 <<< (nI e &&& 31)), .int (nI t)] [] (sm_SH n, I1, J) K
  | 0, t, ht, I1, f1, f2, f3, hK => by
    have hk := hK I1 f1 ⟨f2, f3⟩
    rw [z82_41]
    by_cases h1 : u < t
    · have h1' : nI u < nI t := nI_lt h1 (by omega)
      simp only [z82_43, z82_44, z82_131, z82_132_0, z82_132_1, sm_cti, sm_ctr, sm_ctn, sm_nbi, Option.toList_some, Option.toList_none, List.cons_append, List.nil_append, ne_eq, reduceCtorEq, not_false_eq_true, Nat.reduceLeDiff, h1', if_true, if_false, not_true_eq_false, not_false_eq_true, and_true, true_and, and_false, false_and, and_self, or_true, true_or, or_false, false_or, reduceIte, iff_self, Int32.add_zero, y_10, Classical.not_not]
      exact hk
    · have h1' : ¬ nI u < nI t := nI_nlt (by omega) (by omega)
      have h2' : nI m ≤ nI t := nI_le (by omega) (by omega)
      simp only [z82_43, z82_44, z82_47, z82_49, z82_50, z82_131, z82_132_0, z82_132_1, sm_cti, sm_ctr, sm_ctn, sm_nbi, Option.toList_some, Option.toList_none, List.cons_append, List.nil_append, ne_eq, reduceCtorEq, not_false_eq_true, Nat.reduceLeDiff, h1', h2', if_true, if_false, not_true_eq_false, not_false_eq_true, and_true, true_and, and_false, false_and, and_self, or_true, true_or, or_false, false_or, reduceIte, iff_self, Int32.add_zero, y_10, Classical.not_not]
      exact hk
  | r + 1, t, ht, I1, f1, f2, f3, hK => by
    have htm : t < m := by omega
    have htu : t ≤ u := by omega
    have h1' : ¬ nI u < nI t := nI_nlt (by omega) (by omega)
    have h2' : ¬ nI m ≤ nI t := nI_ge htm (by omega)
    have es := f2 t (by omega)
    have ec : I1 82 e = cls f a b e D := by rw [f1 _ _ (by omega), hc e he]
    have hok := sg_ok (f := f) (a := a) (b := b) (A := A) (t := t) hD he
    rw [trl_s] at hK
    rw [z82_41]
    by_cases h3 : okt f a b A e t = true
    · have h3' := eq_true h3
      rw [if_pos h3] at hK
      have emx : (if nI u < nI (t + 1) then nI (t + 1) else nI u) = nI (max u (t + 1)) := nI_max (by omega) (by omega)
      simp only [z82_43, z82_44, z82_47, z82_49, z82_50, z82_53, z82_54, z82_57, z82_59, z82_60, z82_61, z82_64, z82_65, z82_66, z82_67, z82_70, z82_71, z82_74, z82_76, z82_77, z82_78, z82_80, z82_81, z82_82, z82_83, z82_86, z82_87, z82_89, z82_90, z82_91, z82_92, z82_93, z82_94, z82_95, z82_97, z82_98, z82_99, z82_102, z82_103, sm_cti, sm_ctr, sm_ctn, sm_nbi, Option.toList_some, Option.toList_none, List.cons_append, List.nil_append, ne_eq, reduceCtorEq, not_false_eq_true, Nat.reduceLeDiff, kc80, kc81, kc82, kc83, rc80, rf80_0, rf80_2, rf80_3, h1', h2', es, ec, hok, h3', nI_1, emx, y_inN (show t < 12 by omega) (by decide), nI_clamp (show t < 2 ^ 31 by omega), y_inN (show e < 12 by omega) (by decide), nI_clamp (show e < 2 ^ 31 by omega), if_true, if_false, not_true_eq_false, not_false_eq_true, and_true, true_and, and_false, false_and, and_self, or_true, true_or, or_false, false_or, reduceIte, iff_self, Int32.add_zero, y_10, Classical.not_not]
      refine H t htm htu _ _ (fun x c hx => by rw [uI_q _ _ (by omega), uI_q _ _ (by omega), f1 x c hx]) (fun s hs => ?_) (fun o ho h5 => ?_) (fun I2 w1 w2 => ?_)
      · rw [uI_q _ _ (by omega), sgb_s, sgb_congr (A := fv A e t) (A' := A) (fun o ho => fv_o _ (by omega)), fv_s]
        by_cases hst : s = t
        · subst hst
          rw [uI_s, if_pos ⟨h0, rfl⟩]
        · rw [uI_o _ _ (by omega), f2 s hs, if_neg (fun z => hst z.2.symm)]
      · by_cases hoe : o = e
        · subst hoe
          rw [uI_s, fv_s]
        · rw [uI_o _ _ (by omega), uI_q _ _ (by omega), f3 o (by omega) h5, fv_o _ hoe]
      · cases hres : pln f a b m w (e + 1) (max u (t + 1)) (fv A e t) with
        | some B =>
          rw [hres] at w2 hK
          dsimp only [ros]
          simp only [z82_106, z82_109, z82_110_0, z82_110_1, sm_cti, sm_ctr, sm_ctn, sm_nbi, Option.toList_some, Option.toList_none, List.cons_append, List.nil_append, ne_eq, reduceCtorEq, not_false_eq_true, Nat.reduceLeDiff, if_true, if_false, not_true_eq_false, not_false_eq_true, and_true, true_and, and_false, false_and, and_self, or_true, true_or, or_false, false_or, reduceIte, iff_self, Int32.add_zero, y_10, Classical.not_not]
          exact hK I2 w1 w2
        | none =>
          rw [hres] at w2 hK
          dsimp only at hK
          obtain ⟨v1, v2⟩ := w2
          have ev : I2 83 t = sgb f A t e ||| (1 <<< (nI e &&& 31)) := by
            rw [v1 t (by omega), sgb_s, sgb_congr (A := fv A e t) (A' := A) (fun o ho => fv_o _ (by omega)), fv_s, if_pos ⟨h0, rfl⟩]
          dsimp only [ros]
          simp only [z82_106, z82_111, z82_112, z82_115, z82_117, z82_118, z82_119, z82_121, z82_122, z82_123, z82_124, z82_125, z82_128, sm_cti, sm_ctr, sm_ctn, sm_nbi, Option.toList_some, Option.toList_none, List.cons_append, List.nil_append, ne_eq, reduceCtorEq, not_false_eq_true, Nat.reduceLeDiff, kc80, kc83, rf80_3, ev, sgb_back (show e < 12 by omega), nI_1, y_inN (show t < 12 by omega) (by decide), nI_clamp (show t < 2 ^ 31 by omega), if_true, if_false, not_true_eq_false, not_false_eq_true, and_true, true_and, and_false, false_and, and_self, or_true, true_or, or_false, false_or, reduceIte, iff_self, Int32.add_zero, y_10, Classical.not_not]
          refine c_pl_in hD h4 hc hm he hu hA h0 d n J K H r (t + 1) (by omega) _ (fun x c hx => by rw [uI_q _ _ (by omega), w1 x c hx]) (fun s hs => ?_) (fun o ho h5 => ?_) hK
          · by_cases hst : s = t
            · subst hst
              rw [uI_s]
            · rw [uI_o _ _ (by omega), v1 s hs, sgb_s, sgb_congr (A := fv A e t) (A' := A) (fun o ho => fv_o _ (by omega)), fv_s, if_neg (fun z => hst z.2.symm)]
          · rw [uI_q _ _ (by omega), v2 o (by omega) h5, fv_o _ (by omega)]
    · rw [if_neg h3] at hK
      simp only [z82_43, z82_44, z82_47, z82_49, z82_50, z82_53, z82_54, z82_57, z82_59, z82_60, z82_61, z82_64, z82_65, z82_66, z82_67, z82_125, z82_128, sm_cti, sm_ctr, sm_ctn, sm_nbi, Option.toList_some, Option.toList_none, List.cons_append, List.nil_append, ne_eq, reduceCtorEq, not_false_eq_true, Nat.reduceLeDiff, kc80, kc82, kc83, rf80_2, rf80_3, h1', h2', es, ec, hok, h3, nI_1, y_inN (show t < 12 by omega) (by decide), nI_clamp (show t < 2 ^ 31 by omega), y_inN (show e < 12 by omega) (by decide), nI_clamp (show e < 2 ^ 31 by omega), if_true, if_false, not_true_eq_false, not_false_eq_true, and_true, true_and, and_false, false_and, and_self, or_true, true_or, or_false, false_or, reduceIte, iff_self, Int32.add_zero, y_10, Classical.not_not]
      exact c_pl_in hD h4 hc hm he hu hA h0 d n J K H r (t + 1) (by omega) I1 f1 f2 f3 hK
theorem c_plan {I : sm_I} (hD : D ≤ 12) (h7 : I 34 7 = nI D) (h4 : I 80 4 = ow f D) (hc : ∀ j, j < D → I 82 j = cls f a b j D) {m : Nat} (hm : m ≤ 12) (d n : Nat) (J : sm_J) : ∀ (w e u : Nat) (A : Nat → Nat), e + w = D → u ≤ e → (∀ o, A o ≤ 12) → ∀ (I1 : sm_I) (K : Option Value → sm_H → Prop), (∀ x c, ¬ (x = 81 ∨ x = 83) → I1 x c = I x c) → (∀ s, s < 12 → I1 83 s = sgb f A s e) → (∀ o, o < e → ¬ f (40 + o) = 0 → I1 81 o = nI (A o)) →
    (∀ I', (∀ x c, ¬ (x = 81 ∨ x = 83) → I' x c = I x c) → plp f D e A (pln f a b m w e u A) I' → K (some (.int (ros (pln f a b m w e u A)))) (sm_SH n, I', J)) →
    sm_Ok (d + w) 82 0 [.ref 80, .int (nI e), .int (nI u), .int (nI m), .null, .null] [] (sm_SH n, I1, J) K
  | 0, e, u, A, he, hu, hA, I1, K, f1, f2, f3, hK => by
    have hk : e = D := by omega
    subst hk
    have e7 : I1 34 7 = nI e := by rw [f1 _ _ (by omega), h7]
    have l : ¬ nI e < nI e := Int32.not_lt.mpr (Int32.le_refl _)
    rw [z82_0]
    simp only [z82_1, z82_2, z82_5, z82_8, z82_11, z82_12_0, z82_12_1, sm_cti, sm_ctr, sm_ctn, sm_nbi, Option.toList_some, Option.toList_none, List.cons_append, List.nil_append, ne_eq, reduceCtorEq, not_false_eq_true, Nat.reduceLeDiff, kc34, kc80, rf80_1, e7, l, if_true, if_false, not_true_eq_false, not_false_eq_true, and_true, true_and, and_false, false_and, and_self, or_true, true_or, or_false, false_or, reduceIte, iff_self, Int32.add_zero, y_10, Classical.not_not]
    exact hK I1 f1 f3
  | w + 1, e, u, A, he, hu, hA, I1, K, f1, f2, f3, hK => by
    have hk : e < D := by omega
    have e7 : I1 34 7 = nI D := by rw [f1 _ _ (by omega), h7]
    have e4 : I1 80 4 = ow f D := by rw [f1 _ _ (by omega), h4]
    have l : nI e < nI D := nI_lt hk (by omega)
    have hob := ow_bit (f := f) hD hk
    rw [pln_s] at hK
    rw [show d + (w + 1) = d + w + 1 from rfl]
    by_cases h0 : f (40 + e) = 0
    · have h0' := eq_true h0
      rw [if_pos h0] at hK
      rw [z82_0]
      simp only [z82_1, z82_2, z82_5, z82_8, z82_13, z82_14, z82_15, z82_16, z82_18, z82_19, z82_22, z82_24, z82_25, z82_28, z82_29, z82_30, z82_31, z82_32, z82_33, z82_34, sm_cti, sm_ctr, sm_ctn, sm_nbi, Option.toList_some, Option.toList_none, List.cons_append, List.nil_append, ne_eq, reduceCtorEq, not_false_eq_true, Nat.reduceLeDiff, kc34, kc80, rc80, rf80_1, e7, e4, l, hob, h0', nI_1, if_true, if_false, not_true_eq_false, not_false_eq_true, and_true, true_and, and_false, false_and, and_self, or_true, true_or, or_false, false_or, reduceIte, iff_self, Int32.add_zero, y_10, Classical.not_not]
      refine c_plan hD h7 h4 hc hm d n J w (e + 1) u A (by omega) (by omega) hA I1 _ f1 (fun s hs => by rw [f2 s hs, sgb_s, if_neg (fun z => z.1 h0)]) (fun o ho h5 => ?_) (fun I2 w1 w2 => ?_)
      · by_cases hoe : o = e
        · subst hoe
          exact absurd h0 h5
        · exact f3 o (by omega) h5
      · cases hres : pln f a b m w (e + 1) u A with
        | some B =>
          rw [hres] at w2 hK
          dsimp only [ros]
          simp only [z82_37_0, z82_37_1, sm_cti, sm_ctr, sm_ctn, sm_nbi, Option.toList_some, Option.toList_none, List.cons_append, List.nil_append, ne_eq, reduceCtorEq, not_false_eq_true, Nat.reduceLeDiff, if_true, if_false, not_true_eq_false, not_false_eq_true, and_true, true_and, and_false, false_and, and_self, or_true, true_or, or_false, false_or, reduceIte, iff_self, Int32.add_zero, y_10, Classical.not_not]
          exact hK I2 w1 w2
        | none =>
          rw [hres] at w2 hK
          dsimp only [ros]
          simp only [z82_37_0, z82_37_1, sm_cti, sm_ctr, sm_ctn, sm_nbi, Option.toList_some, Option.toList_none, List.cons_append, List.nil_append, ne_eq, reduceCtorEq, not_false_eq_true, Nat.reduceLeDiff, if_true, if_false, not_true_eq_false, not_false_eq_true, and_true, true_and, and_false, false_and, and_self, or_true, true_or, or_false, false_or, reduceIte, iff_self, Int32.add_zero, y_10, Classical.not_not]
          obtain ⟨v1, v2⟩ := w2
          exact hK I2 w1 ⟨fun s hs => by rw [v1 s hs, sgb_s, if_neg (fun z => z.1 h0)], fun o ho h5 => v2 o (by omega) h5⟩
    · rw [if_neg h0] at hK
      have n0 : (0 : Int32) = nI 0 := rfl
      rw [z82_0]
      simp only [z82_1, z82_2, z82_5, z82_8, z82_13, z82_14, z82_15, z82_16, z82_18, z82_19, z82_22, z82_24, z82_25, z82_38, z82_39, sm_cti, sm_ctr, sm_ctn, sm_nbi, Option.toList_some, Option.toList_none, List.cons_append, List.nil_append, ne_eq, reduceCtorEq, not_false_eq_true, Nat.reduceLeDiff, kc34, kc80, rf80_1, e7, e4, l, hob, h0, if_true, if_false, not_true_eq_false, not_false_eq_true, and_true, true_and, and_false, false_and, and_self, or_true, true_or, or_false, false_or, reduceIte, iff_self, Int32.add_zero, y_10, Classical.not_not]
      rw [n0]
      refine c_pl_in hD h4 hc hm hk hu hA h0 d n J K (fun t ht htu I2 K2 g1 g2 g3 hK2 => ?_) (min (u + 1) m) 0 (by omega) I1 f1 f2 f3 hK
      exact c_plan hD h7 h4 hc hm d n J w (e + 1) (max u (t + 1)) (fv A e t) (by omega) (by omega) (fun o => by
        by_cases hoe : o = e
        · subst hoe
          rw [fv_s]
          omega
        · rw [fv_o _ hoe]
          exact hA o) I2 K2 g1 g2 g3 hK2
theorem c_fi_lp {I : sm_I} (d n : Nat) (J : sm_J) (K : Option Value → sm_H → Prop) : ∀ (w k : Nat), k + w = 12 → ∀ I1 : sm_I, (∀ x c, ¬ x = 83 → I1 x c = I x c) → (∀ j, j < k → I1 83 j = 0) →
    (∀ I', (∀ x c, ¬ x = 83 → I' x c = I x c) → (∀ j, j < 12 → I' 83 j = 0) → K none (sm_SH n, I', J)) →
    sm_Ok d 250 5 [.ref 83, .int 0, .int (nI k), .int (nI 12)] [] (sm_SH n, I1, J) K
  | 0, k, h, I1, f1, f2, hK => by
    have hk : k = 12 := by omega
    subst hk
    rw [z250_5]
    simp only [z250_6, z250_7, z250_20, sm_cti, sm_ctr, sm_ctn, sm_nbi, Option.toList_some, Option.toList_none, List.cons_append, List.nil_append, ne_eq, reduceCtorEq, not_false_eq_true, Nat.reduceLeDiff, Int32.le_refl, if_true, if_false, not_true_eq_false, not_false_eq_true, and_true, true_and, and_false, false_and, and_self, or_true, true_or, or_false, false_or, reduceIte, iff_self, Int32.add_zero, y_10, Classical.not_not]
    exact hK I1 f1 f2
  | w + 1, k, h, I1, f1, f2, hK => by
    have e : ¬ nI 12 ≤ nI k := nI_ge (by omega) (by decide)
    rw [z250_5]
    simp only [z250_6, z250_7, z250_10, z250_11, z250_12, z250_13, z250_14, z250_17, sm_cti, sm_ctr, sm_ctn, sm_nbi, Option.toList_some, Option.toList_none, List.cons_append, List.nil_append, ne_eq, reduceCtorEq, not_false_eq_true, Nat.reduceLeDiff, kc83, e, nI_1, y_inN (show k < 12 by omega) (by decide), nI_clamp (show k < 2 ^ 31 by omega), if_true, if_false, not_true_eq_false, not_false_eq_true, and_true, true_and, and_false, false_and, and_self, or_true, true_or, or_false, false_or, reduceIte, iff_self, Int32.add_zero, y_10, Classical.not_not]
    refine c_fi_lp d n J K w (k + 1) (by omega) _ (fun x c hx => by rw [uI_q _ _ hx, f1 x c hx]) (fun j hj => ?_) hK
    by_cases hjk : j = k
    · subst hjk
      rw [uI_s]
    · rw [uI_o _ _ (by omega), f2 j (by omega)]
theorem c_fill83 {I : sm_I} (d n : Nat) (J : sm_J) (K : Option Value → sm_H → Prop)
    (hK : ∀ I', (∀ x c, ¬ x = 83 → I' x c = I x c) → (∀ j, j < 12 → I' 83 j = 0) → K none (sm_SH n, I', J)) :
    sm_Ok d 250 0 [.ref 83, .int 0, .null, .null] [] (sm_SH n, I, J) K := by
  rw [z250_0]
  simp only [z250_1, z250_2, z250_3, z250_4, sm_cti, sm_ctr, sm_ctn, sm_nbi, Option.toList_some, Option.toList_none, List.cons_append, List.nil_append, ne_eq, reduceCtorEq, not_false_eq_true, Nat.reduceLeDiff, kc83, if_true, if_false, not_true_eq_false, not_false_eq_true, and_true, true_and, and_false, false_and, and_self, or_true, true_or, or_false, false_or, reduceIte, iff_self, Int32.add_zero, y_10, Classical.not_not]
  exact c_fi_lp d n J K 12 0 rfl I (fun _ _ _ => rfl) (fun j hj => absurd hj (Nat.not_lt_zero _)) hK
theorem sgb_0 {A : Nat → Nat} {t : Nat} : sgb f A t 0 = 0 := rfl
theorem c_pa_lp {I : sm_I} (hD : D ≤ 12) (h7 : I 34 7 = nI D) (h4 : I 80 4 = ow f D) (hc : ∀ j, j < D → I 82 j = cls f a b j D) {ms : Nat} {B : Nat → Nat} (hms : ms ≤ 12) (hB : pln f a b ms D 0 0 (fun _ => 0) = some B) (hmin : ∀ m, m < ms → pln f a b m D 0 0 (fun _ => 0) = none) (d n : Nat) (J : sm_J) (K : Option Value → sm_H → Prop)
    (hK : ∀ I', (∀ x c, ¬ (x = 81 ∨ x = 83) → I' x c = I x c) → (∀ o, o < D → ¬ f (40 + o) = 0 → I' 81 o = nI (B o)) → K (some (.int (nI ms))) (sm_SH n, I', J)) : ∀ (w k : Nat), k + w = ms → ∀ I1 : sm_I, (∀ x c, ¬ (x = 81 ∨ x = 83) → I1 x c = I x c) → (∀ s, s < 12 → I1 83 s = 0) →
    sm_Ok (d + D + 1) 81 16 [.ref 80, .int (nI k)] [] (sm_SH n, I1, J) K
  | 0, k, h, I1, f1, f2 => by
    have hk : k = ms := by omega
    subst hk
    have l : ¬ (12 : Int32) < nI k := nI_nlt (a := 12) (by omega) (by omega)
    have n0 : (0 : Int32) = nI 0 := rfl
    rw [z81_16]
    simp only [z81_17, z81_19, z81_22, z81_23, z81_24, z81_25, z81_26, sm_cti, sm_ctr, sm_ctn, sm_nbi, Option.toList_some, Option.toList_none, List.cons_append, List.nil_append, ne_eq, reduceCtorEq, not_false_eq_true, Nat.reduceLeDiff, rc80, l, if_true, if_false, not_true_eq_false, not_false_eq_true, and_true, true_and, and_false, false_and, and_self, or_true, true_or, or_false, false_or, reduceIte, iff_self, Int32.add_zero, y_10, Classical.not_not]
    rw [n0]
    refine c_plan hD h7 h4 hc hms d n J D 0 0 (fun _ => 0) (by omega) (Nat.le_refl _) (fun _ => Nat.zero_le _) I1 _ f1 (fun s hs => by rw [f2 s hs]; rfl) (fun o ho => absurd ho (Nat.not_lt_zero _)) (fun I2 w1 w2 => ?_)
    rw [hB] at w2 ⊢
    dsimp only [ros]
    simp only [z81_29, z81_32, z81_33, sm_cti, sm_ctr, sm_ctn, sm_nbi, Option.toList_some, Option.toList_none, List.cons_append, List.nil_append, ne_eq, reduceCtorEq, not_false_eq_true, Nat.reduceLeDiff, if_true, if_false, not_true_eq_false, not_false_eq_true, and_true, true_and, and_false, false_and, and_self, or_true, true_or, or_false, false_or, reduceIte, iff_self, Int32.add_zero, y_10, Classical.not_not]
    exact hK I2 w1 w2
  | w + 1, k, h, I1, f1, f2 => by
    have l : ¬ (12 : Int32) < nI k := nI_nlt (a := 12) (by omega) (by omega)
    have n0 : (0 : Int32) = nI 0 := rfl
    have hN := hmin k (by omega)
    rw [z81_16]
    simp only [z81_17, z81_19, z81_22, z81_23, z81_24, z81_25, z81_26, sm_cti, sm_ctr, sm_ctn, sm_nbi, Option.toList_some, Option.toList_none, List.cons_append, List.nil_append, ne_eq, reduceCtorEq, not_false_eq_true, Nat.reduceLeDiff, rc80, l, if_true, if_false, not_true_eq_false, not_false_eq_true, and_true, true_and, and_false, false_and, and_self, or_true, true_or, or_false, false_or, reduceIte, iff_self, Int32.add_zero, y_10, Classical.not_not]
    rw [n0]
    refine c_plan hD h7 h4 hc (show k ≤ 12 by omega) d n J D 0 0 (fun _ => 0) (by omega) (Nat.le_refl _) (fun _ => Nat.zero_le _) I1 _ f1 (fun s hs => by rw [f2 s hs]; rfl) (fun o ho => absurd ho (Nat.not_lt_zero _)) (fun I2 w1 w2 => ?_)
    rw [hN] at w2 ⊢
    dsimp only [ros]
    simp only [z81_29, z81_34, z81_37, sm_cti, sm_ctr, sm_ctn, sm_nbi, Option.toList_some, Option.toList_none, List.cons_append, List.nil_append, ne_eq, reduceCtorEq, not_false_eq_true, Nat.reduceLeDiff, nI_1, if_true, if_false, not_true_eq_false, not_false_eq_true, and_true, true_and, and_false, false_and, and_self, or_true, true_or, or_false, false_or, reduceIte, iff_self, Int32.add_zero, y_10, Classical.not_not]
    exact c_pa_lp hD h7 h4 hc hms hB hmin d n J K hK w (k + 1) (by omega) I2 w1 (fun s hs => w2.1 s hs)
end
