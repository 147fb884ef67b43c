/-! both answer alike: shift -/
theorem y_shp {i m : Int32} {a : Nat} (ha : a ≤ 60) : (0 ≤ i ∧ 0 ≤ m ∧ i ≤ nI a ∧ m ≤ nI a - i) ↔ (¬ m < 0 ∧ ¬ i < 0 ∧ ¬ nI a - m < i) := by
  constructor
  · rintro ⟨h1, h2, h3, h4⟩
    obtain ⟨k, hk, rfl⟩ := nI_of2 (M := nI a) (n := a) (nI_toInt (by omega)) (Int32.not_lt.mpr h1) h3
    rw [nI_sub hk] at h4
    obtain ⟨w, hw, rfl⟩ := nI_of2 (M := nI (a - k)) (n := a - k) (nI_toInt (by omega)) (Int32.not_lt.mpr h2) h4
    refine ⟨nI_pos (by omega), nI_pos (by omega), ?_⟩
    rw [nI_sub (by omega)]
    exact nI_nlt (by omega) (by omega)
  · rintro ⟨h1, h2, h3⟩
    obtain ⟨w, hw, rfl⟩ := nI_of h1
    obtain ⟨k, hk, rfl⟩ := nI_of h2
    have hwa : w ≤ a := by
      refine Classical.byContradiction fun hc => h3 ?_
      have e : (nI a - nI w).toInt = (a : Int) - (w : Int) := by
        rw [Int32.toInt_sub, nI_toInt (by omega), nI_toInt hw]
        apply Int.bmod_eq_of_le <;> omega
      rw [Int32.lt_iff_toInt_lt, e, nI_toInt hk]
      omega
    rw [nI_sub hwa] at h3
    have hka : k ≤ a - w := by
      refine Classical.byContradiction fun hc => h3 (nI_lt (by omega) (by omega))
    refine ⟨nI_pos' hk, nI_pos' hw, nI_le (by omega) (by omega), ?_⟩
    rw [nI_sub (by omega)]
    exact nI_le (by omega) (by omega)
theorem y_shiftE (d n : Nat) (I : sm_I) (J : sm_J) (K : Option Value → sm_H → Prop) {s e : Nat} (hs : s < 6) (he : e < 6) (i j m : Int32) (h : (¬ 0 ≤ I (91 + 2 * s) 1 ∧ I (91 + 2 * s) 2 = -1) ∨ (¬ 0 ≤ I (91 + 2 * e) 1 ∧ I (91 + 2 * e) 2 = -1)) : sm_Ok (d + 2) 123 0 [.ref 26, .int (nI s), .int i, .int (nI e), .int j, .int m, .null, .null] [] (sm_SH n, I, J) K ↔ K (some (.int (-11))) (sm_SH n, I, J) := by
  obtain ⟨k1, k2, k3⟩ := y_shelf hs
  obtain ⟨l1, l2, l3⟩ := y_shelf he
  simp only [z123_0, z123_1, z123_4, z123_7, z123_8, z123_11, z123_14, z123_15, z123_16, z123_17, z123_20, z123_21, z123_22, z123_24, z123_25, z123_28, z123_29, z123_30, z123_32, z123_34, z123_37, z123_40, z123_42, z123_45, z123_48, z123_50, z123_51, z123_53, z123_56, z123_59, z123_61, z123_63, z123_66, z123_69, z123_72, z123_74, z123_75, z123_77, z123_78, z123_80, z123_83, z123_86, z123_88, z123_90, z123_92, z123_95, z123_98, z123_100, z123_101, z123_103, z123_106, z123_107, z123_109, z123_112, z123_114, z123_116, z123_119, z123_121, sm_cti, sm_ctr, sm_ctn, sm_nbi, Option.toList_some, Option.toList_none, List.cons_append, List.nil_append, ne_eq, reduceCtorEq, not_false_eq_true, Nat.reduceLeDiff, kc26, kc90, rf26_12, y_isShelf, y_sh5 hs, y_sh5 he, y_bit, y_inN hs (by decide), y_inN he (by decide), nI_clamp (show s < 2 ^ 31 by omega), nI_clamp (show e < 2 ^ 31 by omega), k1, k2, k3, l1, l2, l3, sm_rc_of k1, sm_rc_of l1, y_isEmpty _ _ _ _ _ k1, y_isRow _ _ _ _ _ k1, y_isEmpty _ _ _ _ _ l1, y_isRowOf _ _ _ _ _ l1, y_hasPlaces _ _ _ _ _ k1, y_hasPlaces _ _ _ _ _ l1, if_true, if_false, not_true_eq_false, not_false_eq_true, and_true, true_and, and_false, false_and, and_self, or_true, true_or, or_false, false_or, reduceIte, iff_self, Int32.add_zero, y_10, Classical.not_not]
  by_cases h1 : (¬ 0 ≤ I (91 + 2 * s) 1 ∧ I (91 + 2 * s) 2 = -1)
  · simp only [h1, if_true, if_false, not_true_eq_false, not_false_eq_true, and_true, true_and, and_false, false_and, and_self, or_true, true_or, or_false, false_or, reduceIte, iff_self, Int32.add_zero, y_10, Classical.not_not]
  · have h2 := h.resolve_left h1
    simp only [h1, h2, if_true, if_false, not_true_eq_false, not_false_eq_true, and_true, true_and, and_false, false_and, and_self, or_true, true_or, or_false, false_or, reduceIte, iff_self, Int32.add_zero, y_10, Classical.not_not]
theorem y_shiftO (d n : Nat) (I : sm_I) (J : sm_J) (K : Option Value → sm_H → Prop) {s e : Nat} (hs : s < 6) (he : e < 6) (i j m : Int32) (h : ¬ ((¬ 0 ≤ I (91 + 2 * s) 1 ∧ I (91 + 2 * s) 2 = -1) ∨ (¬ 0 ≤ I (91 + 2 * e) 1 ∧ I (91 + 2 * e) 2 = -1))) (hO : I (91 + 2 * s) 2 = -1 ∨ ¬ (¬ I (91 + 2 * e) 2 = -1 ∧ I (91 + 2 * e) 2 = I (91 + 2 * s) 2)) : sm_Ok (d + 2) 123 0 [.ref 26, .int (nI s), .int i, .int (nI e), .int j, .int m, .null, .null] [] (sm_SH n, I, J) K ↔ K (some (.int (-12))) (sm_SH n, I, J) := by
  obtain ⟨k1, k2, k3⟩ := y_shelf hs
  obtain ⟨l1, l2, l3⟩ := y_shelf he
  have h1 : ¬ (¬ 0 ≤ I (91 + 2 * s) 1 ∧ I (91 + 2 * s) 2 = -1) := fun z => h (Or.inl z)
  have h2 : ¬ (¬ 0 ≤ I (91 + 2 * e) 1 ∧ I (91 + 2 * e) 2 = -1) := fun z => h (Or.inr z)
  simp only [z123_0, z123_1, z123_4, z123_7, z123_8, z123_11, z123_14, z123_15, z123_16, z123_17, z123_20, z123_21, z123_22, z123_24, z123_25, z123_28, z123_29, z123_30, z123_32, z123_34, z123_37, z123_40, z123_42, z123_45, z123_48, z123_50, z123_51, z123_53, z123_56, z123_59, z123_61, z123_63, z123_66, z123_69, z123_72, z123_74, z123_75, z123_77, z123_78, z123_80, z123_83, z123_86, z123_88, z123_90, z123_92, z123_95, z123_98, z123_100, z123_101, z123_103, z123_106, z123_107, z123_109, z123_112, z123_114, z123_116, z123_119, z123_121, sm_cti, sm_ctr, sm_ctn, sm_nbi, Option.toList_some, Option.toList_none, List.cons_append, List.nil_append, ne_eq, reduceCtorEq, not_false_eq_true, Nat.reduceLeDiff, kc26, kc90, rf26_12, y_isShelf, y_sh5 hs, y_sh5 he, y_bit, y_inN hs (by decide), y_inN he (by decide), nI_clamp (show s < 2 ^ 31 by omega), nI_clamp (show e < 2 ^ 31 by omega), k1, k2, k3, l1, l2, l3, sm_rc_of k1, sm_rc_of l1, y_isEmpty _ _ _ _ _ k1, y_isRow _ _ _ _ _ k1, y_isEmpty _ _ _ _ _ l1, y_isRowOf _ _ _ _ _ l1, y_hasPlaces _ _ _ _ _ k1, y_hasPlaces _ _ _ _ _ l1, if_true, if_false, not_true_eq_false, not_false_eq_true, and_true, true_and, and_false, false_and, and_self, or_true, true_or, or_false, false_or, reduceIte, iff_self, Int32.add_zero, y_10, Classical.not_not]
  by_cases h3 : I (91 + 2 * s) 2 = -1
  · have h8 : 0 ≤ I (91 + 2 * s) 1 := Classical.byContradiction (fun z => h1 ⟨z, h3⟩)
    simp only [h2, h3, h8, if_true, if_false, not_true_eq_false, not_false_eq_true, and_true, true_and, and_false, false_and, and_self, or_true, true_or, or_false, false_or, reduceIte, iff_self, Int32.add_zero, y_10, Classical.not_not]
  · have h4 := hO.resolve_left h3
    simp only [h1, h2, h3, h4, if_true, if_false, not_true_eq_false, not_false_eq_true, and_true, true_and, and_false, false_and, and_self, or_true, true_or, or_false, false_or, reduceIte, iff_self, Int32.add_zero, y_10, Classical.not_not]
theorem shl_em {B s : Nat} {I : sm_I} {J : sm_J} (hB : B ≤ 50) (h : shl B I J s) : (¬ 0 ≤ I (91 + 2 * s) 1 ∧ I (91 + 2 * s) 2 = -1) ↔ I 126 s < 0 := by
  rcases h with ⟨a1, a2, a3⟩ | ⟨b, hb, a1, a2, a3⟩ | ⟨q, m, hq, hm, a1, a2, a3, a4, a5, a6⟩
  · rw [a1, a2, a3]
    decide
  · rw [a1, a2, a3]
    exact ⟨fun z => absurd (nI_pos' (by omega)) z.1, fun z => absurd z (nI_pos (by omega))⟩
  · rw [a1, a2, a3]
    exact ⟨fun z => absurd z.2 (y_nm1 (by omega)), fun z => absurd z (nI_pos (by omega))⟩
theorem shl_ro {B s : Nat} {I : sm_I} {J : sm_J} (hB : B ≤ 50) (h : shl B I J s) : I (91 + 2 * s) 2 = -1 ↔ I 126 s < 50 := by
  rcases h with ⟨a1, a2, a3⟩ | ⟨b, hb, a1, a2, a3⟩ | ⟨q, m, hq, hm, a1, a2, a3, a4, a5, a6⟩
  · rw [a1, a3]
    decide
  · rw [a1, a3]
    exact ⟨fun _ => nI_lt (b := 50) (by omega) (by decide), fun _ => rfl⟩
  · rw [a1, a3]
    exact ⟨fun z => absurd z (y_nm1 (by omega)), fun z => absurd z (nI_nlt (b := 50) (by omega) (by omega))⟩
theorem shl_row {B s : Nat} {I : sm_I} {J : sm_J} (hB : B ≤ 50) (h : shl B I J s) (h5 : ¬ I 126 s < 50) : ∃ t m : Nat, t < 5 ∧ m ≤ 60 ∧ I 126 s = nI (50 + t) ∧ I (91 + 2 * s) 1 = -1 ∧ I (91 + 2 * s) 2 = nI t ∧ I (91 + 2 * s) 3 = nI m ∧ I 127 s = nI m
    ∧ (t < 2 → ∀ j, j < 60 → ∃ v : Int32, J (92 + 2 * s) j = v.toInt64) := by
  rcases h with ⟨a1, a2, a3⟩ | ⟨b, hb, a1, a2, a3⟩ | h
  · rw [a1] at h5
    exact absurd (by decide) h5
  · rw [a1] at h5
    exact absurd (nI_lt (b := 50) (by omega) (by decide)) h5
  · exact h
theorem shl_same {B s e : Nat} {I : sm_I} {J : sm_J} (hB : B ≤ 50) (h : shl B I J s) (h' : shl B I J e) (h5 : ¬ I 126 s < 50) : (¬ I (91 + 2 * e) 2 = -1 ∧ I (91 + 2 * e) 2 = I (91 + 2 * s) 2) ↔ I 126 s = I 126 e := by
  obtain ⟨t, m, ht, hm, a1, a2, a3, a4, a5, a6⟩ := shl_row hB h h5
  rw [a1, a3]
  rcases h' with ⟨b1, b2, b3⟩ | ⟨b, hb, b1, b2, b3⟩ | ⟨q, m', hq, hm', b1, b2, b3, b4, b5, b6⟩
  · rw [b1, b3]
    exact ⟨fun z => absurd rfl z.1, fun z => absurd z (y_nm1 (by omega))⟩
  · rw [b1, b3]
    exact ⟨fun z => absurd rfl z.1, fun z => by have := (nI_eq (a := 50 + t) (b := b) (by omega) (by omega)).mp z; omega⟩
  · rw [b1, b3, nI_eq (by omega) (by omega), nI_eq (by omega) (by omega)]
    exact ⟨fun z => by omega, fun z => ⟨y_nm1 (by omega), by omega⟩⟩
theorem pr_shift {n B : Nat} {I : sm_I} {J : sm_J} (hB : B ≤ 50) (hS : iv_sh B I J) (x i y j m : Int32) : pr n I J 123 [.ref 26, .int x, .int i, .int y, .int j, .int m, .null, .null] 237 [.ref 103, .int x, .int i, .int y, .int j, .int m, .null] (fun I2 J2 => I2 = I ∧ iv_sh B I2 J2) := by
  by_cases hx : (0 ≤ x ∧ x ≤ 5) ∧ (0 ≤ y ∧ y ≤ 5)
  · obtain ⟨hx, hy⟩ := hx
    obtain ⟨s, hs, rfl⟩ := y_idx6 hx
    obtain ⟨e, he, rfl⟩ := y_idx6 hy
    obtain ⟨s1, s2⟩ := hS s hs
    obtain ⟨e1, e2⟩ := hS e he
    have ms := shl_em hB s1
    have me := shl_em hB e1
    by_cases h1 : I 126 s < 0 ∨ I 126 e < 0
    · refine ⟨.int (-11), I, J, I, J, fun d K => ?_, fun d K => ?_, rfl, hS⟩
      · rw [← ms, ← me] at h1
        rw [y_shiftE _ n I J K hs he i j m h1]
      · rw [m_shift _ n I J K hs he i j m, if_pos h1]
    · by_cases h2 : I 126 s < 50 ∨ ¬ I 126 s = I 126 e
      · refine ⟨.int (-12), I, J, I, J, fun d K => ?_, fun d K => ?_, rfl, hS⟩
        · refine y_shiftO _ n I J K hs he i j m (fun z => h1 ?_) ?_
          · rw [ms, me] at z
            exact z
          · rw [shl_ro hB s1]
            by_cases h5 : I 126 s < 50
            · exact Or.inl h5
            · rw [shl_same hB s1 e1 h5]
              exact Or.inr (h2.resolve_left h5)
        · rw [m_shift _ n I J K hs he i j m, if_neg h1, if_pos h2]
      · have h5 : ¬ I 126 s < 50 := fun z => h2 (Or.inl z)
        have h6 : I 126 s = I 126 e := Classical.byContradiction fun z => h2 (Or.inr z)
        obtain ⟨t, a, ht, ha, a1, a2, a3, a4, a5, a6⟩ := shl_row hB s1 h5
        obtain ⟨q, c, hq, hc, b1, b2, b3, b4, b5, b6⟩ := shl_row hB e1 (by rw [← h6]; exact h5)
        have htq : t = q := by
          rw [a1, b1, nI_eq (by omega) (by omega)] at h6
          omega
        subst htq
        have pe1 := y_shp (i := i) (m := m) ha
        have pe2 := y_shp (i := j) (m := m) hc
        have hcp : ((0 ≤ i ∧ 0 ≤ m ∧ i ≤ I (91 + 2 * s) 3 ∧ m ≤ I (91 + 2 * s) 3 - i) ∧ (0 ≤ j ∧ 0 ≤ m ∧ j ≤ I (91 + 2 * e) 3 ∧ m ≤ I (91 + 2 * e) 3 - j)) → (¬ i < 0 ∧ ¬ j < 0 ∧ ¬ m < 0 ∧ i.toNatClampNeg + m.toNatClampNeg ≤ 60 ∧ j.toNatClampNeg + m.toNatClampNeg ≤ 60) ∧ ∃ i' j' m' : Nat, i = nI i' ∧ j = nI j' ∧ m = nI m' ∧ i' + m' ≤ 60 ∧ j' + m' ≤ 60 := by
          rw [a4, b4]
          rintro ⟨⟨p1, p2, p3, p4⟩, p5, -, p6, p7⟩
          obtain ⟨i', hi', rfl⟩ := nI_of2 (M := nI a) (n := a) (nI_toInt (by omega)) (Int32.not_lt.mpr p1) p3
          obtain ⟨j', hj', rfl⟩ := nI_of2 (M := nI c) (n := c) (nI_toInt (by omega)) (Int32.not_lt.mpr p5) p6
          rw [nI_sub hi'] at p4
          rw [nI_sub hj'] at p7
          obtain ⟨m', hm', rfl⟩ := nI_of2 (M := nI (a - i')) (n := a - i') (nI_toInt (by omega)) (Int32.not_lt.mpr p2) p4
          have hm2 : m' ≤ c - j' := (nI_leI (by omega) (by omega)).mp p7
          refine ⟨⟨nI_pos (by omega), nI_pos (by omega), nI_pos (by omega), ?_, ?_⟩, i', j', m', rfl, rfl, rfl, by omega, by omega⟩
          · rw [nI_clamp (by omega), nI_clamp (by omega)]
            omega
          · rw [nI_clamp (by omega), nI_clamp (by omega)]
            omega
        have hE : ¬ ((¬ 0 ≤ I (91 + 2 * s) 1 ∧ I (91 + 2 * s) 2 = -1) ∨ (¬ 0 ≤ I (91 + 2 * e) 1 ∧ I (91 + 2 * e) 2 = -1)) := by
          rw [ms, me]
          exact h1
        have hO : ¬ (I (91 + 2 * s) 2 = -1 ∨ ¬ (¬ I (91 + 2 * e) 2 = -1 ∧ I (91 + 2 * e) 2 = I (91 + 2 * s) 2)) := by
          rw [a3, b3]
          rintro (z | z)
          · exact y_nm1 (by omega) z
          · exact z ⟨y_nm1 (by omega), rfl⟩
        by_cases hp : (0 ≤ i ∧ 0 ≤ m ∧ i ≤ I (91 + 2 * s) 3 ∧ m ≤ I (91 + 2 * s) 3 - i) ∧ (0 ≤ j ∧ 0 ≤ m ∧ j ≤ I (91 + 2 * e) 3 ∧ m ≤ I (91 + 2 * e) 3 - j)
        · have hq2 : ¬ (m < 0 ∨ i < 0 ∨ j < 0 ∨ I 127 s - m < i ∨ I 127 e - m < j) := by
            rw [a4, b4] at hp
            rw [a5, b5]
            have p1 := pe1.mp hp.1
            have p2 := pe2.mp hp.2
            rintro (z | z | z | z | z)
            · exact p1.1 z
            · exact p1.2.1 z
            · exact p2.2.1 z
            · exact p1.2.2 z
            · exact p2.2.2 z
          obtain ⟨-, i', j', m', rfl, rfl, rfl, g1, g2⟩ := hcp hp
          have ci := nI_clamp (show i' < 2 ^ 31 by omega)
          have cj := nI_clamp (show j' < 2 ^ 31 by omega)
          have cm := nI_clamp (show m' < 2 ^ 31 by omega)
          refine ⟨.int (nI m'), I, sm_cJ J (92 + 2 * s) (92 + 2 * e) i' j' m', I, y_pJ (y_pJ (sm_cJ J (92 + 2 * s) (92 + 2 * e) i' j' m') (sm_cJ J (92 + 2 * s) (92 + 2 * e) i' j' m') 129 0 128 (60 * s + i') m') (y_pJ (sm_cJ J (92 + 2 * s) (92 + 2 * e) i' j' m') (sm_cJ J (92 + 2 * s) (92 + 2 * e) i' j' m') 129 0 128 (60 * s + i') m') 128 (60 * e + j') 129 0 m', fun d K => ?_, fun d K => ?_, rfl, ?_⟩
          · rw [y_shift _ n I J K hs he _ _ _ (fun z => (hcp z).1), if_neg hE, if_neg hO, if_pos hp, ci, cj, cm]
          · rw [m_shift _ n I _ K hs he, if_neg h1, if_neg h2, if_neg hq2]
            have l1 := m_shift_l1 (d + 198 + 2) n I (sm_cJ J (92 + 2 * s) (92 + 2 * e) i' j' m') K (j := j') hs he g1 m' 0 (by omega)
            rw [y_pJ0, nI_0] at l1
            rw [l1]
            have l2 := m_shift_l2 (d + 198 + 2) n I (y_pJ (sm_cJ J (92 + 2 * s) (92 + 2 * e) i' j' m') (sm_cJ J (92 + 2 * s) (92 + 2 * e) i' j' m') 129 0 128 (60 * s + i') m') K (i := i') hs he g2 m' 0 (by omega)
            rw [y_pJ0, nI_0] at l2
            exact l2
          · have ro : ∀ k, sm_cJ J (92 + 2 * s) (92 + 2 * e) i' j' m' 128 k = J 128 k := fun k => by
              unfold sm_cJ
              rw [if_neg (by omega)]
            have r3 : ∀ u k, u ≠ 128 → u ≠ 129 → y_pJ (y_pJ (sm_cJ J (92 + 2 * s) (92 + 2 * e) i' j' m') (sm_cJ J (92 + 2 * s) (92 + 2 * e) i' j' m') 129 0 128 (60 * s + i') m') (y_pJ (sm_cJ J (92 + 2 * s) (92 + 2 * e) i' j' m') (sm_cJ J (92 + 2 * s) (92 + 2 * e) i' j' m') 129 0 128 (60 * s + i') m') 128 (60 * e + j') 129 0 m' u k = sm_cJ J (92 + 2 * s) (92 + 2 * e) i' j' m' u k := fun u k w1 w2 => by
              unfold y_pJ
              rw [if_neg (fun z => w1 z.1), if_neg (fun z => w2 z.1)]
            have r4 : ∀ k, y_pJ (y_pJ (sm_cJ J (92 + 2 * s) (92 + 2 * e) i' j' m') (sm_cJ J (92 + 2 * s) (92 + 2 * e) i' j' m') 129 0 128 (60 * s + i') m') (y_pJ (sm_cJ J (92 + 2 * s) (92 + 2 * e) i' j' m') (sm_cJ J (92 + 2 * s) (92 + 2 * e) i' j' m') 129 0 128 (60 * s + i') m') 128 (60 * e + j') 129 0 m' 128 k = if 60 * e + j' ≤ k ∧ k < 60 * e + j' + m' then J 128 (60 * s + i' + (k - (60 * e + j'))) else J 128 k := fun k => by
              unfold y_pJ
              by_cases w : 60 * e + j' ≤ k ∧ k < 60 * e + j' + m'
              · rw [if_pos ⟨rfl, w⟩, if_pos ⟨rfl, by omega, by omega⟩, if_pos w, ro]
                congr 1
                omega
              · rw [if_neg (fun z => w z.2), if_neg (fun z => absurd z.1 (by decide)), if_neg w, ro]
            have r5 : ∀ u k, u ≠ 92 + 2 * e → sm_cJ J (92 + 2 * s) (92 + 2 * e) i' j' m' u k = J u k := fun u k w => by
              unfold sm_cJ
              rw [if_neg w]
            have r6 : ∀ k, sm_cJ J (92 + 2 * s) (92 + 2 * e) i' j' m' (92 + 2 * e) k = if j' ≤ k ∧ k < j' + m' then J (92 + 2 * s) (i' + (k - j')) else J (92 + 2 * e) k := fun k => by
              unfold sm_cJ va_cpy
              rw [if_pos rfl]
            refine iv_sh_one (s := e) hS (fun u hu hne => ⟨rfl, rfl, fun c => rfl⟩) (fun u hu hne k hk => ⟨?_, ?_⟩) (fun _ => ⟨?_, fun k hk => ?_⟩)
            · rw [r3 _ _ (by omega) (by omega), r5 _ _ (by omega)]
            · rw [r4, if_neg (by omega)]
            · refine Or.inr (Or.inr ⟨t, c, ht, hc, b1, b2, b3, b4, b5, fun h k hk => ?_⟩)
              rw [r3 _ _ (by omega) (by omega), r6]
              by_cases w : j' ≤ k ∧ k < j' + m'
              · rw [if_pos w]
                exact a6 h _ (by omega)
              · rw [if_neg w]
                exact b6 h k hk
            · rw [r3 _ _ (by omega) (by omega), r6, r4]
              by_cases w : j' ≤ k ∧ k < j' + m'
              · rw [if_pos w, if_pos (by omega), s2 _ (by omega)]
                congr 1
                omega
              · rw [if_neg w, if_neg (by omega), e2 k hk]
        · have hq2 : (m < 0 ∨ i < 0 ∨ j < 0 ∨ I 127 s - m < i ∨ I 127 e - m < j) := by
            refine Classical.byContradiction fun z => hp ?_
            rw [a5, b5] at z
            rw [a4, b4, pe1, pe2]
            exact ⟨⟨fun u => z (Or.inl u), fun u => z (Or.inr (Or.inl u)), fun u => z (Or.inr (Or.inr (Or.inr (Or.inl u))))⟩, fun u => z (Or.inl u), fun u => z (Or.inr (Or.inr (Or.inl u))), fun u => z (Or.inr (Or.inr (Or.inr (Or.inr u))))⟩
          refine ⟨.int (-13), I, J, I, J, fun d K => ?_, fun d K => ?_, rfl, hS⟩
          · rw [y_shift _ n I J K hs he i j m (fun z => (hcp z).1), if_neg hE, if_neg hO, if_neg hp]
          · rw [m_shift _ n I J K hs he i j m, if_neg h1, if_neg h2, if_pos hq2]
  · exact ⟨.int (-1), I, J, I, J, fun d K => y_shiftB _ n I J K hx, fun d K => m_shiftB _ n I J K hx, rfl, hS⟩
