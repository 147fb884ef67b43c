/-! both answer alike: crowd -/
/-- what the reference asks of two debts of a crowd -/
def gmb (f a b : Nat → Nat) (s : Int32) (e k : Nat) : Bool := !tb s e || !tb s k || decide (CL f a b e k)
def gmr (f a b : Nat → Nat) (s : Int32) (e : Nat) : Bool := andb (gmb f a b s e) e
def okm (f a b : Nat → Nat) (O : Int32) (D s : Nat) : Bool := decide (nI s &&& (O ^^^ (-1)) = 0) && andb (gmr f a b (nI s)) D
section
variable {P D : Nat} {f a b : Nat → Nat}
theorem ok_eq (hD : D ≤ 12) {s : Nat} (hs : s < 4096) : okc (ow f D) (fun e => cls f a b e D) D s = okm f a b (ow f D) D s := by
  unfold okc okm
  by_cases h : nI s &&& (ow f D ^^^ (-1)) = 0
  · rw [decide_eq_true h, Bool.true_and, Bool.true_and]
    have hsub := (tb_sub _ _).mp h
    have hlt : ∀ i, i < 32 → tb (nI s) i = true → i < D := fun i hi hx => by
      have := hsub i hi hx
      rw [tb_ow hD i hi, Bool.and_eq_true, decide_eq_true_iff] at this
      exact this.1
    rw [Bool.eq_iff_iff, andb_iff, andb_iff]
    constructor
    · intro hA e he
      show andb (gmb f a b (nI s) e) e = true
      rw [andb_iff]
      intro k hk
      show (!tb (nI s) e || !tb (nI s) k || decide (CL f a b e k)) = true
      cases h1 : tb (nI s) e with
      | false => rfl
      | true =>
        cases h2 : tb (nI s) k with
        | false => rfl
        | true =>
          have hg := hA e he
          unfold gdb at hg
          rw [Bool.or_eq_true, decide_eq_true_iff, decide_eq_true_iff] at hg
          have hcl : CL f a b e k := by
            rcases hg with hg | hg
            · exfalso
              have h3 := tb_clr (nI s) (k := e) (i := e) (by omega) (by omega)
              rw [hg, h1] at h3
              simp at h3
            · have h3 := (tb_sub _ _).mp hg k (by omega) (by rw [tb_clr _ (by omega) (by omega), h2]; simp; omega)
              exact ((tb_cls hD k (by omega)).mp h3).2.2
          rw [decide_eq_true hcl]
          rfl
    · intro hB e he
      show gdb (nI s) (fun e => cls f a b e D) e = true
      unfold gdb
      rw [Bool.or_eq_true, decide_eq_true_iff, decide_eq_true_iff]
      cases h1 : tb (nI s) e with
      | false =>
        refine Or.inl (tb_ext (fun i hi => ?_))
        rw [tb_clr _ (by omega) hi]
        by_cases hie : i = e
        · subst hie
          rw [h1]
          rfl
        · simp [hie]
      | true =>
        refine Or.inr ((tb_sub _ _).mpr (fun i hi hx => ?_))
        rw [tb_clr _ (by omega) hi, Bool.and_eq_true] at hx
        obtain ⟨h2, h3⟩ := hx
        have hie : ¬ i = e := by simpa using h3
        have hiD := hlt i hi h2
        refine (tb_cls hD i hi).mpr ⟨hiD, hie, ?_⟩
        by_cases hlt : i < e
        · have hg := hB e he
          unfold gmr at hg
          rw [andb_iff] at hg
          have hg := hg i hlt
          unfold gmb at hg
          rw [h1, h2] at hg
          simpa using hg
        · have hg := hB i hiD
          unfold gmr at hg
          rw [andb_iff] at hg
          have hg := hg e (by omega)
          unfold gmb at hg
          rw [h1, h2] at hg
          exact CL_sym (by simpa using hg)
  · rw [decide_eq_false h, Bool.false_and, Bool.false_and]
theorem m_cr_in {I : sm_I} (hb : bdf P D f a b) (hM : mFo P D f a b I) (x1 x2 : Int32) (s : Nat) {e : Nat} (he : e < D) (v : Bool) (d n : Nat) (J : sm_J) (K : Option Value → sm_H → Prop) : ∀ (w k : Nat), k + w = e →
    (sm_Ok (d + 2) 204 71 [.ref 103, .int x1, .int x2, .int (nI s), .int (bi (v && andb (gmb f a b (nI s) e) k)), .int (nI e), .int (nI k)] [] (sm_SH n, I, J) K ↔ sm_Ok (d + 2) 204 125 [.ref 103, .int x1, .int x2, .int (nI s), .int (bi (v && gmr f a b (nI s) e)), .int (nI e), .int (nI e)] [] (sm_SH n, I, J) K)
  | 0, k, h => by
    have hk : k = e := by omega
    subst hk
    rw [z204_71]
    simp only [z204_73, z204_75, sm_cti, sm_ctr, sm_ctn, sm_nbi, Option.toList_some, Option.toList_none, List.cons_append, List.nil_append, ne_eq, reduceCtorEq, not_false_eq_true, Nat.reduceLeDiff, Int32.le_refl, if_true, if_false, not_true_eq_false, not_false_eq_true, and_true, true_and, and_false, false_and, and_self, or_true, true_or, or_false, false_or, reduceIte, iff_self, Int32.add_zero, y_10, Classical.not_not]
    exact Iff.rfl
  | w + 1, k, h => by
    have hD := hb.2.1
    have e0 : ¬ nI e ≤ nI k := nI_ge (show k < e by omega) (by omega)
    have b1 : bi true = 1 := rfl
    have b2 : bi false = 0 := rfl
    have t1 : ((true = true) = True) := eq_true rfl
    have t2 : ((false = true) = False) := by decide
    rw [← m_cr_in hb hM x1 x2 s he v d n J K w (k + 1) (by omega), z204_71, andb_s]
    cases h1 : (v && andb (gmb f a b (nI s) e) k) with
    | false =>
      have h2 : (v && (andb (gmb f a b (nI s) e) k && gmb f a b (nI s) e k)) = false := by rw [← Bool.and_assoc, h1, Bool.false_and]
      rw [h2]
      simp only [z204_73, z204_75, z204_78, z204_80, z204_116, z204_117, z204_119, z204_122, sm_cti, sm_ctr, sm_ctn, sm_nbi, Option.toList_some, Option.toList_none, List.cons_append, List.nil_append, ne_eq, reduceCtorEq, not_false_eq_true, Nat.reduceLeDiff, e0, b2, nI_1, if_true, if_false, not_true_eq_false, not_false_eq_true, and_true, true_and, and_false, false_and, and_self, or_true, true_or, or_false, false_or, reduceIte, iff_self, Int32.add_zero, y_10, Classical.not_not]
    | true =>
      have h2 : (v && (andb (gmb f a b (nI s) e) k && gmb f a b (nI s) e k)) = gmb f a b (nI s) e k := by rw [← Bool.and_assoc, h1, Bool.true_and]
      rw [h2]
      unfold gmb
      cases h3 : tb (nI s) e with
      | false =>
        have h6 : (!false || !tb (nI s) k || decide (CL f a b e k)) = true := rfl
        rw [h6]
        simp only [z204_73, z204_75, z204_78, z204_80, z204_83, z204_84, z204_86, z204_89, z204_112, z204_113, z204_117, z204_119, z204_122, sm_cti, sm_ctr, sm_ctn, sm_nbi, Option.toList_some, Option.toList_none, List.cons_append, List.nil_append, ne_eq, reduceCtorEq, not_false_eq_true, Nat.reduceLeDiff, e0, b1, m_isInX _ (show e < 32 by omega), h3, t2, nI_1, if_true, if_false, not_true_eq_false, not_false_eq_true, and_true, true_and, and_false, false_and, and_self, or_true, true_or, or_false, false_or, reduceIte, iff_self, Int32.add_zero, y_10, Classical.not_not]
      | true =>
        cases h4 : tb (nI s) k with
        | false =>
          have h6 : (!true || !false || decide (CL f a b e k)) = true := rfl
          rw [h6]
          simp only [z204_73, z204_75, z204_78, z204_80, z204_83, z204_84, z204_86, z204_89, z204_92, z204_93, z204_95, z204_98, z204_112, z204_113, z204_117, z204_119, z204_122, sm_cti, sm_ctr, sm_ctn, sm_nbi, Option.toList_some, Option.toList_none, List.cons_append, List.nil_append, ne_eq, reduceCtorEq, not_false_eq_true, Nat.reduceLeDiff, e0, b1, m_isInX _ (show e < 32 by omega), m_isInX _ (show k < 32 by omega), h3, h4, t1, t2, nI_1, if_true, if_false, not_true_eq_false, not_false_eq_true, and_true, true_and, and_false, false_and, and_self, or_true, true_or, or_false, false_or, reduceIte, iff_self, Int32.add_zero, y_10, Classical.not_not]
        | true =>
          by_cases h5 : CL f a b e k
          · have h5' := eq_true h5
            have h6 : (!true || !true || decide (CL f a b e k)) = true := by rw [decide_eq_true h5]; rfl
            rw [h6]
            simp only [z204_73, z204_75, z204_78, z204_80, z204_83, z204_84, z204_86, z204_89, z204_92, z204_93, z204_95, z204_98, z204_101, z204_102, z204_104, z204_106, z204_109, z204_112, z204_113, z204_117, z204_119, z204_122, sm_cti, sm_ctr, sm_ctn, sm_nbi, Option.toList_some, Option.toList_none, List.cons_append, List.nil_append, ne_eq, reduceCtorEq, not_false_eq_true, Nat.reduceLeDiff, rc103, e0, b1, m_isInX _ (show e < 32 by omega), m_isInX _ (show k < 32 by omega), h3, h4, t1, m_clash hb hM he (show k < D by omega), h5', y_bit, nI_1, if_true, if_false, not_true_eq_false, not_false_eq_true, and_true, true_and, and_false, false_and, and_self, or_true, true_or, or_false, false_or, reduceIte, iff_self, Int32.add_zero, y_10, Classical.not_not]
          · have h5' := eq_false h5
            have h6 : (!true || !true || decide (CL f a b e k)) = false := by rw [decide_eq_false h5]; rfl
            rw [h6]
            simp only [z204_73, z204_75, z204_78, z204_80, z204_83, z204_84, z204_86, z204_89, z204_92, z204_93, z204_95, z204_98, z204_101, z204_102, z204_104, z204_106, z204_109, z204_116, z204_117, z204_119, z204_122, sm_cti, sm_ctr, sm_ctn, sm_nbi, Option.toList_some, Option.toList_none, List.cons_append, List.nil_append, ne_eq, reduceCtorEq, not_false_eq_true, Nat.reduceLeDiff, rc103, e0, b1, b2, m_isInX _ (show e < 32 by omega), m_isInX _ (show k < 32 by omega), h3, h4, t1, m_clash hb hM he (show k < D by omega), h5', y_bit, nI_1, if_true, if_false, not_true_eq_false, not_false_eq_true, and_true, true_and, and_false, false_and, and_self, or_true, true_or, or_false, false_or, reduceIte, iff_self, Int32.add_zero, y_10, Classical.not_not]
theorem m_cr_a {I : sm_I} (hb : bdf P D f a b) (hM : mFo P D f a b I) (x1 x2 : Int32) (s : Nat) (d n : Nat) (J : sm_J) (K : Option Value → sm_H → Prop) (hK : ∀ x5 x6 : Value, x5.category = 1 → x6.category = 1 → sm_Ok (d + 2) 204 131 [.ref 103, .int x1, .int x2, .int (nI s), .int (bi (andb (gmr f a b (nI s)) D)), x5, x6] [] (sm_SH n, I, J) K) : ∀ (w k : Nat), k + w = D → ∀ x6 : Value, x6.category = 1 →
    sm_Ok (d + 2) 204 54 [.ref 103, .int x1, .int x2, .int (nI s), .int (bi (andb (gmr f a b (nI s)) k)), .int (nI k), x6] [] (sm_SH n, I, J) K
  | 0, k, h, x6, hx => by
    have hk : k = D := by omega
    subst hk
    rw [z204_54]
    simp only [z204_56, z204_57, z204_60, sm_cti, sm_ctr, sm_ctn, sm_nbi, Option.toList_some, Option.toList_none, List.cons_append, List.nil_append, ne_eq, reduceCtorEq, not_false_eq_true, Nat.reduceLeDiff, kc103, hM.2.1, Int32.le_refl, if_true, if_false, not_true_eq_false, not_false_eq_true, and_true, true_and, and_false, false_and, and_self, or_true, true_or, or_false, false_or, reduceIte, iff_self, Int32.add_zero, y_10, Classical.not_not]
    exact hK _ _ rfl hx
  | w + 1, k, h, x6, hx => by
    have hD := hb.2.1
    have e0 : ¬ nI D ≤ nI k := nI_ge (show k < D by omega) (by omega)
    have b1 : (bi true = 0) = False := by decide
    have b2 : (bi false = 0) = True := by decide
    have n0 : (0 : Int32) = nI 0 := rfl
    rw [z204_54]
    cases h1 : andb (gmr f a b (nI s)) k with
    | false =>
      have h2 : andb (gmr f a b (nI s)) D = false := by
        cases h3 : andb (gmr f a b (nI s)) D with
        | false => rfl
        | true =>
          have h4 := andb_iff.mp h3
          have h5 : andb (gmr f a b (nI s)) k = true := andb_iff.mpr (fun j hj => h4 j (by omega))
          rw [h1] at h5
          exact absurd h5 (by decide)
      rw [h2] at hK
      simp only [z204_56, z204_57, z204_60, z204_63, z204_65, sm_cti, sm_ctr, sm_ctn, sm_nbi, Option.toList_some, Option.toList_none, List.cons_append, List.nil_append, ne_eq, reduceCtorEq, not_false_eq_true, Nat.reduceLeDiff, kc103, hM.2.1, e0, b2, if_true, if_false, not_true_eq_false, not_false_eq_true, and_true, true_and, and_false, false_and, and_self, or_true, true_or, or_false, false_or, reduceIte, iff_self, Int32.add_zero, y_10, Classical.not_not]
      exact hK _ _ rfl hx
    | true =>
      simp only [z204_56, z204_57, z204_60, z204_63, z204_65, z204_68, z204_69, sm_cti, sm_ctr, sm_ctn, sm_nbi, Option.toList_some, Option.toList_none, List.cons_append, List.nil_append, ne_eq, reduceCtorEq, not_false_eq_true, Nat.reduceLeDiff, kc103, hM.2.1, e0, b1, hx, if_true, if_false, not_true_eq_false, not_false_eq_true, and_true, true_and, and_false, false_and, and_self, or_true, true_or, or_false, false_or, reduceIte, iff_self, Int32.add_zero, y_10, Classical.not_not]
      rw [n0]
      have hin := (m_cr_in hb hM x1 x2 s (show k < D by omega) true d n J K k 0 (by omega)).mpr
      refine hin ?_
      simp only [z204_125, z204_128, sm_cti, sm_ctr, sm_ctn, sm_nbi, Option.toList_some, Option.toList_none, List.cons_append, List.nil_append, ne_eq, reduceCtorEq, not_false_eq_true, Nat.reduceLeDiff, nI_1, if_true, if_false, not_true_eq_false, not_false_eq_true, and_true, true_and, and_false, false_and, and_self, or_true, true_or, or_false, false_or, reduceIte, iff_self, Int32.add_zero, y_10, Classical.not_not]
      have hrec := m_cr_a hb hM x1 x2 s d n J K hK w (k + 1) (by omega) (.int (nI k)) rfl
      rw [andb_s, h1] at hrec
      exact hrec
theorem m_cr_lp {I : sm_I} (hb : bdf P D f a b) (hM : mFo P D f a b I) (x1 : Int32) (d n : Nat) (J : sm_J) (K : Option Value → sm_H → Prop) (hK : K (some (.int (if x1 = 0 then nI (pc (crd (okm f a b (ow f D) D) (2 ^ D))) else nI (crd (okm f a b (ow f D) D) (2 ^ D))))) (sm_SH n, I, J)) : ∀ (w s : Nat), s + w = 2 ^ D → ∀ x4 x5 x6 : Value, x4.category = 1 → x5.category = 1 → x6.category = 1 →
    sm_Ok (d + 2) 204 16 [.ref 103, .int x1, .int (nI (crd (okm f a b (ow f D) D) s)), .int (nI s), x4, x5, x6] [] (sm_SH n, I, J) K
  | 0, s, h, x4, x5, x6, c4, c5, c6 => by
    have hs : s = 2 ^ D := by omega
    subst hs
    have hD := hb.2.1
    rw [z204_16]
    by_cases h0 : x1 = 0
    · rw [if_pos h0] at hK
      simp only [z204_17, z204_18, z204_19, z204_22, z204_23, z204_148, z204_149, z204_152, z204_153, z204_156, z204_160, sm_cti, sm_ctr, sm_ctn, sm_nbi, Option.toList_some, Option.toList_none, List.cons_append, List.nil_append, ne_eq, reduceCtorEq, not_false_eq_true, Nat.reduceLeDiff, kc103, hM.2.1, tb_p2 D (by omega), h0, m_bitsOf, Int32.le_refl, if_true, if_false, not_true_eq_false, not_false_eq_true, and_true, true_and, and_false, false_and, and_self, or_true, true_or, or_false, false_or, reduceIte, iff_self, Int32.add_zero, y_10, Classical.not_not]
      exact hK
    · rw [if_neg h0] at hK
      simp only [z204_17, z204_18, z204_19, z204_22, z204_23, z204_148, z204_149, z204_159, z204_160, sm_cti, sm_ctr, sm_ctn, sm_nbi, Option.toList_some, Option.toList_none, List.cons_append, List.nil_append, ne_eq, reduceCtorEq, not_false_eq_true, Nat.reduceLeDiff, kc103, hM.2.1, tb_p2 D (by omega), h0, Int32.le_refl, if_true, if_false, not_true_eq_false, not_false_eq_true, and_true, true_and, and_false, false_and, and_self, or_true, true_or, or_false, false_or, reduceIte, iff_self, Int32.add_zero, y_10, Classical.not_not]
      exact hK
  | w + 1, s, h, x4, x5, x6, c4, c5, c6 => by
    have hD := hb.2.1
    have hp := p2_le hD
    have e0 : ¬ nI (2 ^ D) ≤ nI s := nI_ge (by omega) (by omega)
    have pl := pc_le s
    have pl2 := pc_le (crd (okm f a b (ow f D) D) s)
    have n0 : (0 : Int32) = nI 0 := rfl
    have b1 : (bi true = 0) = False := by decide
    have b2 : (bi false = 0) = True := by decide
    have hrec := m_cr_lp hb hM x1 d n J K hK w (s + 1) (by omega)
    rw [crd_s] at hrec
    rw [z204_16]
    by_cases h1 : nI s &&& (ow f D ^^^ (-1)) = 0
    · by_cases h2 : pc (crd (okm f a b (ow f D) D) s) < pc s
      · have h2' : ¬ nI (pc s) ≤ nI (pc (crd (okm f a b (ow f D) D) s)) := nI_ge h2 (by omega)
        simp only [z204_17, z204_18, z204_19, z204_22, z204_23, z204_26, z204_27, z204_28, z204_31, z204_32, z204_33, z204_34, z204_37, z204_38, z204_41, z204_42, z204_45, z204_48, z204_49, z204_51, z204_52, sm_cti, sm_ctr, sm_ctn, sm_nbi, Option.toList_some, Option.toList_none, List.cons_append, List.nil_append, ne_eq, reduceCtorEq, not_false_eq_true, Nat.reduceLeDiff, kc103, rc103, hM.2.1, tb_p2 D (by omega), e0, m_owedSet hb hM, h1, m_bitsOf, h2', c4, c5, if_true, if_false, not_true_eq_false, not_false_eq_true, and_true, true_and, and_false, false_and, and_self, or_true, true_or, or_false, false_or, reduceIte, iff_self, Int32.add_zero, y_10, Classical.not_not]
        rw [n0]
        refine m_cr_a hb hM x1 _ s d n J K (fun y5 y6 k5 k6 => ?_) D 0 (by omega) x6 c6
        cases h3 : andb (gmr f a b (nI s)) D with
        | true =>
          have hok : okm f a b (ow f D) D s = true ∧ pc (crd (okm f a b (ow f D) D) s) < pc s := by
            refine ⟨?_, h2⟩
            unfold okm
            rw [h3, decide_eq_true h1]
            rfl
          rw [if_pos hok] at hrec
          simp only [z204_131, z204_133, z204_136, z204_137, z204_141, z204_142, z204_145, sm_cti, sm_ctr, sm_ctn, sm_nbi, Option.toList_some, Option.toList_none, List.cons_append, List.nil_append, ne_eq, reduceCtorEq, not_false_eq_true, Nat.reduceLeDiff, b1, nI_1, if_true, if_false, not_true_eq_false, not_false_eq_true, and_true, true_and, and_false, false_and, and_self, or_true, true_or, or_false, false_or, reduceIte, iff_self, Int32.add_zero, y_10, Classical.not_not]
          exact hrec _ _ _ rfl k5 k6
        | false =>
          have hok : ¬ (okm f a b (ow f D) D s = true ∧ pc (crd (okm f a b (ow f D) D) s) < pc s) := fun z => by
            have z1 := z.1
            unfold okm at z1
            rw [h3, Bool.and_false] at z1
            exact absurd z1 (by decide)
          rw [if_neg hok] at hrec
          simp only [z204_131, z204_133, z204_140, z204_141, z204_142, z204_145, sm_cti, sm_ctr, sm_ctn, sm_nbi, Option.toList_some, Option.toList_none, List.cons_append, List.nil_append, ne_eq, reduceCtorEq, not_false_eq_true, Nat.reduceLeDiff, b2, nI_1, if_true, if_false, not_true_eq_false, not_false_eq_true, and_true, true_and, and_false, false_and, and_self, or_true, true_or, or_false, false_or, reduceIte, iff_self, Int32.add_zero, y_10, Classical.not_not]
          exact hrec _ _ _ rfl k5 k6
      · have h2' : nI (pc s) ≤ nI (pc (crd (okm f a b (ow f D) D) s)) := nI_le (by omega) (by omega)
        rw [if_neg (fun z => h2 z.2)] at hrec
        simp only [z204_17, z204_18, z204_19, z204_22, z204_23, z204_26, z204_27, z204_28, z204_31, z204_32, z204_33, z204_34, z204_37, z204_38, z204_41, z204_42, z204_45, z204_142, z204_145, sm_cti, sm_ctr, sm_ctn, sm_nbi, Option.toList_some, Option.toList_none, List.cons_append, List.nil_append, ne_eq, reduceCtorEq, not_false_eq_true, Nat.reduceLeDiff, kc103, rc103, hM.2.1, tb_p2 D (by omega), e0, m_owedSet hb hM, h1, m_bitsOf, h2', nI_1, if_true, if_false, not_true_eq_false, not_false_eq_true, and_true, true_and, and_false, false_and, and_self, or_true, true_or, or_false, false_or, reduceIte, iff_self, Int32.add_zero, y_10, Classical.not_not]
        exact hrec _ _ _ c4 c5 c6
    · have hok : ¬ (okm f a b (ow f D) D s = true ∧ pc (crd (okm f a b (ow f D) D) s) < pc s) := fun z => by
        have z1 := z.1
        unfold okm at z1
        rw [decide_eq_false h1, Bool.false_and] at z1
        exact absurd z1 (by decide)
      rw [if_neg hok] at hrec
      simp only [z204_17, z204_18, z204_19, z204_22, z204_23, z204_26, z204_27, z204_28, z204_31, z204_32, z204_33, z204_34, z204_142, z204_145, sm_cti, sm_ctr, sm_ctn, sm_nbi, Option.toList_some, Option.toList_none, List.cons_append, List.nil_append, ne_eq, reduceCtorEq, not_false_eq_true, Nat.reduceLeDiff, kc103, rc103, hM.2.1, tb_p2 D (by omega), e0, m_owedSet hb hM, h1, nI_1, if_true, if_false, not_true_eq_false, not_false_eq_true, and_true, true_and, and_false, false_and, and_self, or_true, true_or, or_false, false_or, reduceIte, iff_self, Int32.add_zero, y_10, Classical.not_not]
      exact hrec _ _ _ c4 c5 c6
end
theorem pw_crowd {n : Nat} {xs : Nat → Int32} {I : sm_I} {J : sm_J} (hI : Inv xs I J) (x : Int32) : pw n I J 102 [.ref 26, .int x, .null] 204 [.ref 103, .int x, .null, .null, .null, .null, .null] (fun I2 J2 => Inv xs I2 J2) := by
  obtain ⟨P, D, B, i1, i2, i3, i4, i5, i6, i7, i8⟩ := id hI
  obtain ⟨f, a, b, hb, cF, cT, mF, hz⟩ := fo_pure i2
  have hD := hb.2.1
  have hp := p2_le hD
  intro d K hK
  by_cases h0 : 0 ≤ x ∧ x ≤ 1
  · simp only [z102_0, z102_1, z102_2, z102_5, z102_8, z102_9, z102_10, z102_11, z102_14, z102_15, z102_18, z102_21, z102_22, z102_25, z102_28, z102_29, z102_30, z102_33, z102_34, z102_37, z102_40, z102_41, sm_cti, sm_ctr, sm_ctn, sm_nbi, Option.toList_some, Option.toList_none, List.cons_append, List.nil_append, ne_eq, reduceCtorEq, not_false_eq_true, Nat.reduceLeDiff, kc26, rc80, rf26_3, rf26_9, y_within, y_bit, h0, if_true, if_false, not_true_eq_false, not_false_eq_true, and_true, true_and, and_false, false_and, and_self, or_true, true_or, or_false, false_or, reduceIte, iff_self, Int32.add_zero, y_10, Classical.not_not]
    refine c_look hb cF cT (d + 197) n J _ (fun I1 w1 w2 w3 => ?_)
    have hF1 : cFo P D f a b I1 := cFo_f cF (fun x c h1 h2 => w1 x c (by omega))
    have hl := crd_le (ok := okc (ow f D) (fun e => cls f a b e D) D) (2 ^ D)
    have hcr : crd (okc (ow f D) (fun e => cls f a b e D) D) (2 ^ D) = crd (okm f a b (ow f D) D) (2 ^ D) := crd_congr (fun s hs => ok_eq hD (by omega))
    have hl2 : crd (okc (ow f D) (fun e => cls f a b e D) D) (2 ^ D) < 4096 := by
      have h3 : ∀ (ok : Nat → Bool) (s : Nat), 1 ≤ s → crd ok s < s := fun ok s => by
        induction s with
        | zero => intro z; omega
        | succ s ih =>
          intro _
          rw [crd_s]
          split
          · omega
          · by_cases h4 : 1 ≤ s
            · have := ih h4
              omega
            · have : s = 0 := by omega
              subst this
              exact Nat.zero_lt_one
      have := h3 (okc (ow f D) (fun e => cls f a b e D) D) (2 ^ D) (p2_pos D)
      omega
    have fin : ∀ K2 : Option Value → sm_H → Prop, K2 (some (.int (if x = 0 then nI (pc (crd (okm f a b (ow f D) D) (2 ^ D))) else nI (crd (okm f a b (ow f D) D) (2 ^ D))))) (sm_SH n, I1, J) → sm_Ok (d + 200) 204 0 [.ref 103, .int x, .null, .null, .null, .null, .null] [] (sm_SH n, I1, J) K2 := fun K2 h3 => by
      rw [z204_0]
      simp only [z204_1, z204_2, z204_3, z204_4, z204_7, z204_12, z204_13, z204_14, z204_15, sm_cti, sm_ctr, sm_ctn, sm_nbi, Option.toList_some, Option.toList_none, List.cons_append, List.nil_append, ne_eq, reduceCtorEq, not_false_eq_true, Nat.reduceLeDiff, m_within, y_w0, y_v1, y_bit, h0, if_true, if_false, not_true_eq_false, not_false_eq_true, and_true, true_and, and_false, false_and, and_self, or_true, true_or, or_false, false_or, reduceIte, iff_self, Int32.add_zero, y_10, Classical.not_not]
      have := m_cr_lp hb (mFo_f mF (fun x c hx => w1 x c (by omega))) x (d + 198) n J K2 h3 (2 ^ D - 1) 1 (by have := p2_pos D; omega) .null .null .null rfl rfl rfl
      rw [crd_1] at this
      exact this
    have hInv : Inv xs I1 J := Inv_0 hI (ag0 (fun x c hx => w1 x c (by omega)))
    by_cases hx : x = 0
    · simp only [z102_0, z102_1, z102_2, z102_5, z102_8, z102_9, z102_10, z102_11, z102_14, z102_15, z102_18, z102_21, z102_22, z102_25, z102_28, z102_29, z102_30, z102_33, z102_34, z102_37, z102_40, z102_41, sm_cti, sm_ctr, sm_ctn, sm_nbi, Option.toList_some, Option.toList_none, List.cons_append, List.nil_append, ne_eq, reduceCtorEq, not_false_eq_true, Nat.reduceLeDiff, kc26, rc80, rf26_9, c_largest hD hF1.2.1 w2 w3, y_bitCount hl2, hx, if_true, if_false, not_true_eq_false, not_false_eq_true, and_true, true_and, and_false, false_and, and_self, or_true, true_or, or_false, false_or, reduceIte, iff_self, Int32.add_zero, y_10, Classical.not_not]
      refine hK _ I1 J (fun K2 h3 => fin K2 ?_)
      rw [if_pos hx, ← hcr]
      exact h3 I1 J hInv
    · simp only [z102_0, z102_1, z102_2, z102_5, z102_8, z102_9, z102_10, z102_11, z102_14, z102_15, z102_18, z102_21, z102_22, z102_25, z102_28, z102_29, z102_30, z102_33, z102_34, z102_37, z102_40, z102_41, sm_cti, sm_ctr, sm_ctn, sm_nbi, Option.toList_some, Option.toList_none, List.cons_append, List.nil_append, ne_eq, reduceCtorEq, not_false_eq_true, Nat.reduceLeDiff, kc26, rc80, rf26_9, c_largest hD hF1.2.1 w2 w3, hx, if_true, if_false, not_true_eq_false, not_false_eq_true, and_true, true_and, and_false, false_and, and_self, or_true, true_or, or_false, false_or, reduceIte, iff_self, Int32.add_zero, y_10, Classical.not_not]
      refine hK _ I1 J (fun K2 h3 => fin K2 ?_)
      rw [if_neg hx, ← hcr]
      exact h3 I1 J hInv
  · simp only [z102_0, z102_1, z102_2, z102_5, z102_8, z102_9, z102_10, z102_11, z102_14, z102_15, z102_18, z102_21, z102_22, z102_25, z102_28, z102_29, z102_30, z102_33, z102_34, z102_37, z102_40, z102_41, sm_cti, sm_ctr, sm_ctn, sm_nbi, Option.toList_some, Option.toList_none, List.cons_append, List.nil_append, ne_eq, reduceCtorEq, not_false_eq_true, Nat.reduceLeDiff, y_within, y_bit, h0, if_true, if_false, not_true_eq_false, not_false_eq_true, and_true, true_and, and_false, false_and, and_self, or_true, true_or, or_false, false_or, reduceIte, iff_self, Int32.add_zero, y_10, Classical.not_not]
    refine hK _ I J (fun K2 h3 => ?_)
    rw [z204_0]
    simp only [z204_1, z204_2, z204_3, z204_4, z204_7, z204_10, z204_11, sm_cti, sm_ctr, sm_ctn, sm_nbi, Option.toList_some, Option.toList_none, List.cons_append, List.nil_append, ne_eq, reduceCtorEq, not_false_eq_true, Nat.reduceLeDiff, m_within, y_w0, y_v1, y_bit, h0, if_true, if_false, not_true_eq_false, not_false_eq_true, and_true, true_and, and_false, false_and, and_self, or_true, true_or, or_false, false_or, reduceIte, iff_self, Int32.add_zero, y_10, Classical.not_not]
    exact h3 I J hI
