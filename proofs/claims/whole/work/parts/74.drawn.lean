/-! both answer alike: drawn -/
theorem u_nI (u : UInt32) : u.toInt32 = nI u.toNat := by
  unfold nI
  rw [← UInt32.toInt32_ofNat', UInt32.ofNat_toNat]
def U8 (z : Int32) : Nat := (z.toUInt32 >>> (Int32.toUInt32 8 &&& Int32.toUInt32 31)).toNat
def U16 (z : Int32) : Nat := (z.toUInt32 >>> (Int32.toUInt32 16 &&& Int32.toUInt32 31)).toNat
theorem U8_lt (z : Int32) : U8 z < 2 ^ 24 := by
  unfold U8
  rw [show (Int32.toUInt32 8 &&& Int32.toUInt32 31) = 8 from rfl, UInt32.toNat_shiftRight, show (8 : UInt32).toNat % 32 = 8 from rfl, Nat.shiftRight_eq_div_pow]
  have := z.toUInt32.toNat_lt
  omega
theorem U16_lt (z : Int32) : U16 z < 2 ^ 24 := by
  unfold U16
  rw [show (Int32.toUInt32 16 &&& Int32.toUInt32 31) = 16 from rfl, UInt32.toNat_shiftRight, show (16 : UInt32).toNat % 32 = 16 from rfl, Nat.shiftRight_eq_div_pow]
  have := z.toUInt32.toNat_lt
  omega
theorem U8_e (z : Int32) : (z.toUInt32 >>> (Int32.toUInt32 8 &&& Int32.toUInt32 31)).toInt32 = nI (U8 z) := u_nI _
theorem U16_e (z : Int32) : (z.toUInt32 >>> (Int32.toUInt32 16 &&& Int32.toUInt32 31)).toInt32 = nI (U16 z) := u_nI _
section
variable {P D : Nat} {f a b : Nat → Nat} {lo : Option ((Nat → Nat) × Nat)}
/-- the song that is drawn -/
def sgz (D : Nat) (f b : Nat → Nat) (z : Int32) : Nat := if D = 0 then 12 else if U16 z % 12 < f (8 + b (U8 z % D)) then U8 z % D else 12
theorem sgz_ok (f b : Nat → Nat) (z : Int32) : sgz D f b z < D ∨ sgz D f b z = 12 := by
  unfold sgz
  by_cases h : D = 0
  · rw [if_pos h]
    exact Or.inr rfl
  · rw [if_neg h]
    by_cases h2 : U16 z % 12 < f (8 + b (U8 z % D))
    · rw [if_pos h2]
      exact Or.inl (Nat.mod_lt _ (by omega))
    · rw [if_neg h2]
      exact Or.inr rfl
theorem c_drawnSong (hb : bdf P D f a b) {I : sm_I} (hF : cFo P D f a b I) (d n : Nat) (J : sm_J) (K : Option Value → sm_H → Prop) (z : Int32) : sm_Ok d 147 0 [.ref 26, .int z, .null] [] (sm_SH n, I, J) K ↔ K (some (.int (nI (sgz D f b z)))) (sm_SH n, I, J) := by
  have hD := hb.2.1
  have h8 := hb.1
  unfold sgz
  by_cases h0 : D = 0
  · have e0 : nI D = 0 := by rw [h0]; rfl
    simp only [z147_0, z147_1, z147_4, z147_7, z147_10, z147_12, z147_13, z147_14, z147_16, z147_17, z147_18, z147_21, z147_24, z147_25, z147_26, z147_27, z147_29, z147_30, z147_32, z147_33, z147_34, z147_37, z147_40, z147_41, z147_44, z147_47, z147_48, z147_49, z147_50, z147_53, z147_54, z147_57, z147_59, sm_cti, sm_ctr, sm_ctn, sm_nbi, Option.toList_some, Option.toList_none, List.cons_append, List.nil_append, ne_eq, reduceCtorEq, not_false_eq_true, Nat.reduceLeDiff, kc26, kc34, rf26_2, hF.2.1, e0, h0, if_true, if_false, not_true_eq_false, not_false_eq_true, and_true, true_and, and_false, false_and, and_self, or_true, true_or, or_false, false_or, reduceIte, iff_self, Int32.add_zero, y_10, Classical.not_not]
    exact Iff.rfl
  · have e0 : ¬ nI D = 0 := nI_ne0 (by omega) (by omega)
    have hlt := Nat.mod_lt (U8 z) (show D > 0 by omega)
    obtain ⟨c1, c2, c3⟩ := hb.2.2.2 (U8 z % D) hlt
    have u8 := U8_lt z
    have u16 := U16_lt z
    have r8 := pk_rem (a := U8 z) (d := D) (by omega) (by omega) (by omega)
    have r16 : nI (U16 z) - nI (U16 z) / 12 * 12 = nI (U16 z % 12) := pk_rem (a := U16 z) (d := 12) (by omega) (by decide) (by decide)
    have t12 : ¬ (12 : Int32) = 0 := by decide
    have i39 := (hF.2.2.2.2 (U8 z % D) hlt).2
    have i36 := (hF.2.2.2.1 (b (U8 z % D)) (by omega)).2.1
    have fa := f_any hb (show 8 + b (U8 z % D) < 54 by omega)
    have le : (nI (f (8 + b (U8 z % D))) ≤ nI (U16 z % 12)) = (f (8 + b (U8 z % D)) ≤ U16 z % 12) := propext (nI_leI (by omega) (by omega))
    simp only [z147_0, z147_1, z147_4, z147_7, z147_10, z147_12, z147_13, z147_14, z147_16, z147_17, z147_18, z147_21, z147_24, z147_25, z147_26, z147_27, z147_29, z147_30, z147_32, z147_33, z147_34, z147_37, z147_40, z147_41, z147_44, z147_47, z147_48, z147_49, z147_50, z147_53, z147_54, z147_57, z147_59, sm_cti, sm_ctr, sm_ctn, sm_nbi, Option.toList_some, Option.toList_none, List.cons_append, List.nil_append, ne_eq, reduceCtorEq, not_false_eq_true, Nat.reduceLeDiff, kc26, kc34, kc36, kc39, rf26_2, rf34_1, rf34_4, hF.2.1, e0, h0, U8_e, U16_e, r8, r16, t12, i39, i36, le, y_inN (show U8 z % D < 12 by omega) (by decide), nI_clamp (show U8 z % D < 2 ^ 31 by omega), y_inN (show b (U8 z % D) < 8 by omega) (by decide), nI_clamp (show b (U8 z % D) < 2 ^ 31 by omega), if_true, if_false, not_true_eq_false, not_false_eq_true, and_true, true_and, and_false, false_and, and_self, or_true, true_or, or_false, false_or, reduceIte, iff_self, Int32.add_zero, y_10, Classical.not_not]
    by_cases h2 : f (8 + b (U8 z % D)) ≤ U16 z % 12
    · have h3 : ¬ U16 z % 12 < f (8 + b (U8 z % D)) := by omega
      simp only [h2, h3, if_true, if_false, not_true_eq_false, not_false_eq_true, and_true, true_and, and_false, false_and, and_self, or_true, true_or, or_false, false_or, reduceIte, iff_self, Int32.add_zero, y_10, Classical.not_not]
      exact Iff.rfl
    · have h3 : U16 z % 12 < f (8 + b (U8 z % D)) := by omega
      simp only [h2, h3, if_true, if_false, not_true_eq_false, not_false_eq_true, and_true, true_and, and_false, false_and, and_self, or_true, true_or, or_false, false_or, reduceIte, iff_self, Int32.add_zero, y_10, Classical.not_not]
def zq (z : Int32) : Nat → Int32
  | 0 => z
  | k + 1 => zq z k * 1103515245 + 12345
/-- the songs of a year that begins with z -/
def zsl (D : Nat) (f b : Nat → Nat) (z : Int32) (j : Nat) : Nat := sgz D f b (zq z (j + 1))
theorem c_dr_in (hb : bdf P D f a b) {I : sm_I} {J : sm_J} (hF : cFo P D f a b I) (hL : cLw lo I) {g : Nat → Nat} (hg : bdg g) (z : Int32) (x1 x2 x3 x4 x8 x9 : Int32) (p0 E : Nat) (hE : E ≤ 40) (d n : Nat) (K : Option Value → sm_H → Prop) : ∀ (w j : Nat), j + w = E → ∀ I1 : sm_I, (∀ x c, ¬ (x = 29 ∨ x = 30 ∨ (44 ≤ x ∧ x < 48)) → I1 x c = I x c) → cTa 44 (rnt P D f a b lo (zsl D f b z) g j) I1 →
    (∀ I', (∀ x c, ¬ (x = 29 ∨ x = 30 ∨ (44 ≤ x ∧ x < 48)) → I' x c = I x c) → cTa 44 (rnt P D f a b lo (zsl D f b z) g E) I' → sm_Ok (d + 5) 107 136 [.ref 26, .int x1, .int x2, .int x3, .int x4, .int (nI E), .int (zq z E), .int (nI (p0 + rps P D f a b lo (zsl D f b z) g E)), .int x8, .int x9, .int (nI E)] [] (sm_SH n, I', J) K) →
    sm_Ok (d + 5) 107 89 [.ref 26, .int x1, .int x2, .int x3, .int x4, .int (nI E), .int (zq z j), .int (nI (p0 + rps P D f a b lo (zsl D f b z) g j)), .int x8, .int x9, .int (nI j)] [] (sm_SH n, I1, J) K
  | 0, j, hj, I1, f1, t1, hK => by
    have hj : j = E := by omega
    subst hj
    rw [z107_89]
    simp only [z107_91, z107_93, sm_cti, sm_ctr, sm_ctn, sm_nbi, Option.toList_some, Option.toList_none, List.cons_append, List.nil_append, ne_eq, reduceCtorEq, not_false_eq_true, Nat.reduceLeDiff, Int32.le_refl, if_true, if_false, not_true_eq_false, not_false_eq_true, and_true, true_and, and_false, false_and, and_self, or_true, true_or, or_false, false_or, reduceIte, iff_self, Int32.add_zero, y_10, Classical.not_not]
    exact hK I1 f1 t1
  | w + 1, j, hj, I1, f1, t1, hK => by
    have hjE : j < E := by omega
    have hD12 := hb.2.1
    have ok := sgz_ok (D := D) f b (zq z (j + 1))
    have cF1 := cFo_f hF (I' := I1) (fun x c h1 h2 => f1 x c (by omega))
    have ez : zq z j * 1103515245 + 12345 = zq z (j + 1) := rfl
    rw [z107_89]
    simp only [z107_91, z107_93, z107_96, z107_98, z107_101, z107_102, z107_105, z107_106, z107_108, z107_110, z107_111, z107_114, z107_115, z107_118, z107_119, z107_121, z107_124, sm_cti, sm_ctr, sm_ctn, sm_nbi, Option.toList_some, Option.toList_none, List.cons_append, List.nil_append, ne_eq, reduceCtorEq, not_false_eq_true, Nat.reduceLeDiff, kc26, rc26, rc34, rf26_2, rf26_4, if_neg (nI_ge hjE (show E < 2 ^ 31 by omega)), ez, c_drawnSong hb cF1, if_true, if_false, not_true_eq_false, not_false_eq_true, and_true, true_and, and_false, false_and, and_self, or_true, true_or, or_false, false_or, reduceIte, iff_self, Int32.add_zero, y_10, Classical.not_not]
    refine c_pass hb cF1 (cLw_f hL (fun x c h1 h2 => f1 x c (by omega))) (q := 44) (Or.inr (Or.inl rfl)) (rnt_bd hb _ hg j) t1 (by omega) d n J _ (fun I2 w2 t2 => ?_)
    simp only [z107_127, z107_128, z107_130, z107_133, sm_cti, sm_ctr, sm_ctn, sm_nbi, Option.toList_some, Option.toList_none, List.cons_append, List.nil_append, ne_eq, reduceCtorEq, not_false_eq_true, Nat.reduceLeDiff, nI_add, nI_1, Nat.add_assoc, if_true, if_false, not_true_eq_false, not_false_eq_true, and_true, true_and, and_false, false_and, and_self, or_true, true_or, or_false, false_or, reduceIte, iff_self, Int32.add_zero, y_10, Classical.not_not]
    have := c_dr_in hb hF hL hg z x1 x2 x3 x4 x8 x9 p0 E hE d n K w (j + 1) (by omega) I2 (fun x c hx => by rw [w2 x c (by omega), f1 x c hx]) t2 hK
    exact this
theorem m_dr_in (hb : bdf P D f a b) {I : sm_I} {J : sm_J} (hM : mFo P D f a b I) (hL : mLw lo I) {g : Nat → Nat} (hg : bdg g) (z : Int32) (x1 nm x3 x6 x7 : Int32) (p0 E : Nat) (hE : E ≤ 40) (hnm : nm - nm / 100 * 100 = nI E) (d n : Nat) (K : Option Value → sm_H → Prop) : ∀ (w j : Nat), j + w = E → ∀ (I1 : sm_I) (x9 : Value), (∀ x c, ¬ ((112 ≤ x ∧ x < 116) ∨ (x = 103 ∧ ((14 ≤ c ∧ c ≤ 18) ∨ c = 23 ∨ c = 24))) → I1 x c = I x c) → mTa P D (rnt P D f a b lo (zsl D f b z) g j) I1 →
    (∀ (I' : sm_I) (x9 : Value), (∀ x c, ¬ ((112 ≤ x ∧ x < 116) ∨ (x = 103 ∧ ((14 ≤ c ∧ c ≤ 18) ∨ c = 23 ∨ c = 24))) → I' x c = I x c) → mTa P D (rnt P D f a b lo (zsl D f b z) g E) I' → sm_Ok (d + 49) 212 182 [.ref 103, .int x1, .int nm, .int x3, .int (zq z E), .int (nI (p0 + rps P D f a b lo (zsl D f b z) g E)), .int x6, .int x7, .int (nI E), x9] [] (sm_SH n, I', J) K) →
    sm_Ok (d + 49) 212 78 [.ref 103, .int x1, .int nm, .int x3, .int (zq z j), .int (nI (p0 + rps P D f a b lo (zsl D f b z) g j)), .int x6, .int x7, .int (nI j), x9] [] (sm_SH n, I1, J) K
  | 0, j, hj, I1, x9, f1, t1, hK => by
    have hj : j = E := by omega
    subst hj
    have t100 : ¬ (100 : Int32) = 0 := by decide
    rw [z212_78]
    simp only [z212_80, z212_81, z212_83, z212_84, sm_cti, sm_ctr, sm_ctn, sm_nbi, Option.toList_some, Option.toList_none, List.cons_append, List.nil_append, ne_eq, reduceCtorEq, not_false_eq_true, Nat.reduceLeDiff, t100, hnm, Int32.le_refl, if_true, if_false, not_true_eq_false, not_false_eq_true, and_true, true_and, and_false, false_and, and_self, or_true, true_or, or_false, false_or, reduceIte, iff_self, Int32.add_zero, y_10, Classical.not_not]
    exact hK I1 x9 f1 t1
  | w + 1, j, hj, I1, x9, f1, t1, hK => by
    have hjE : j < E := by omega
    have hD := hb.2.1
    have h8 := hb.1
    have t100 : ¬ (100 : Int32) = 0 := by decide
    have t12 : ¬ (12 : Int32) = 0 := by decide
    have mF1 := mFo_f hM (I' := I1) (fun x c hx => f1 x c (by omega))
    have ez : zq z j * 1103515245 + 12345 = zq z (j + 1) := rfl
    have ok := sgz_ok (D := D) f b (zq z (j + 1))
    -- the evening of a song
    have go : ∀ (x9 : Int32), sm_Ok (d + 49) 212 164 [.ref 103, .int x1, .int nm, .int x3, .int (zq z (j + 1)), .int (nI (p0 + rps P D f a b lo (zsl D f b z) g j)), .int x6, .int x7, .int (nI j), .int x9] [.int (nI (sgz D f b (zq z (j + 1)))), .ref 103] (sm_SH n, I1, J) K := by
      intro x9
      simp only [z212_164, sm_cti, sm_ctr, sm_ctn, sm_nbi, Option.toList_some, Option.toList_none, List.cons_append, List.nil_append, ne_eq, reduceCtorEq, not_false_eq_true, Nat.reduceLeDiff, rc103, if_true, if_false, not_true_eq_false, not_false_eq_true, and_true, true_and, and_false, false_and, and_self, or_true, true_or, or_false, false_or, reduceIte, iff_self, Int32.add_zero, y_10, Classical.not_not]
      refine m_pass hb mF1 (mLw_f hL (fun x c hx => f1 x c (by omega))) (rnt_bd hb _ hg j) t1 ok d n J _ (fun I2 w2 t2 p2 => ?_)
      simp only [z212_167, z212_169, z212_170, z212_173, z212_174, z212_176, z212_179, sm_cti, sm_ctr, sm_ctn, sm_nbi, Option.toList_some, Option.toList_none, List.cons_append, List.nil_append, ne_eq, reduceCtorEq, not_false_eq_true, Nat.reduceLeDiff, kc103, p2, nI_add, nI_1, Nat.add_assoc, if_true, if_false, not_true_eq_false, not_false_eq_true, and_true, true_and, and_false, false_and, and_self, or_true, true_or, or_false, false_or, reduceIte, iff_self, Int32.add_zero, y_10, Classical.not_not]
      have := m_dr_in hb hM hL hg z x1 nm x3 x6 x7 p0 E hE hnm d n K w (j + 1) (by omega) I2 (.int x9) (fun x c hx => by rw [w2 x c (by omega), f1 x c hx]) t2 hK
      exact this
    rw [z212_78]
    by_cases h0 : D = 0
    · have e0 : nI D = 0 := by rw [h0]; rfl
      have es : sgz D f b (zq z (j + 1)) = 12 := by unfold sgz; rw [if_pos h0]
      have G := go 12
      rw [es, show nI 12 = 12 from rfl] at G
      simp only [z212_80, z212_81, z212_83, z212_84, z212_87, z212_89, z212_92, z212_93, z212_96, z212_97, z212_99, z212_100, z212_103, z212_106, z212_108, z212_121, z212_123, z212_124, z212_126, z212_128, z212_162, sm_cti, sm_ctr, sm_ctn, sm_nbi, Option.toList_some, Option.toList_none, List.cons_append, List.nil_append, ne_eq, reduceCtorEq, not_false_eq_true, Nat.reduceLeDiff, kc103, t100, hnm, if_neg (nI_ge hjE (show E < 2 ^ 31 by omega)), ez, mF1.2.1, e0, if_true, if_false, not_true_eq_false, not_false_eq_true, and_true, true_and, and_false, false_and, and_self, or_true, true_or, or_false, false_or, reduceIte, iff_self, Int32.add_zero, y_10, Classical.not_not]
      exact G
    · have e0 : ¬ nI D = 0 := nI_ne0 (by omega) (by omega)
      have hlt := Nat.mod_lt (U8 (zq z (j + 1))) (show D > 0 by omega)
      obtain ⟨c1, c2, c3⟩ := hb.2.2.2 _ hlt
      have u8 := U8_lt (zq z (j + 1))
      have u16 := U16_lt (zq z (j + 1))
      have r8 := pk_rem (a := U8 (zq z (j + 1))) (d := D) (by omega) (by omega) (by omega)
      have r16 : nI (U16 (zq z (j + 1))) - nI (U16 (zq z (j + 1))) / 12 * 12 = nI (U16 (zq z (j + 1)) % 12) := pk_rem (a := U16 (zq z (j + 1))) (d := 12) (by omega) (by decide) (by decide)
      have i9 := (mF1.2.2.2 _ hlt).2
      have a8 : (8 : Int32) + nI (b (U8 (zq z (j + 1)) % D)) = nI (8 + b (U8 (zq z (j + 1)) % D)) := nI_add 8 _
      have mv := mF1.2.2.1 (8 + b (U8 (zq z (j + 1)) % D)) (by omega)
      have fa := f_any hb (show 8 + b (U8 (zq z (j + 1)) % D) < 54 by omega)
      have le : (nI (f (8 + b (U8 (zq z (j + 1)) % D))) ≤ nI (U16 (zq z (j + 1)) % 12)) = (f (8 + b (U8 (zq z (j + 1)) % D)) ≤ U16 (zq z (j + 1)) % 12) := propext (nI_leI (by omega) (by omega))
      have n12 : ¬ nI (U8 (zq z (j + 1)) % D) = 12 := fun z => by have := (nI_eq (b := 12) (by omega) (by decide)).mp z; omega
      have G := go (nI (U8 (zq z (j + 1)) % D))
      simp only [z212_80, z212_81, z212_83, z212_84, z212_87, z212_89, z212_92, z212_93, z212_96, z212_97, z212_99, z212_100, z212_103, z212_111, z212_113, z212_115, z212_116, z212_117, z212_120, z212_121, z212_123, z212_124, z212_126, z212_128, z212_131, z212_133, z212_135, z212_136, z212_138, z212_139, z212_140, z212_143, z212_145, z212_146, z212_149, z212_151, z212_152, z212_153, z212_154, z212_157, z212_159, z212_162, sm_cti, sm_ctr, sm_ctn, sm_nbi, Option.toList_some, Option.toList_none, List.cons_append, List.nil_append, ne_eq, reduceCtorEq, not_false_eq_true, Nat.reduceLeDiff, kc103, kc104, kc109, rf103_0, rf103_9, t100, hnm, if_neg (nI_ge hjE (show E < 2 ^ 31 by omega)), ez, mF1.2.1, e0, U8_e, U16_e, r8, r16, t12, n12, i9, a8, mv, le, y_inN (show U8 (zq z (j + 1)) % D < 12 by omega) (by decide), nI_clamp (show U8 (zq z (j + 1)) % D < 2 ^ 31 by omega), y_inN (show 8 + b (U8 (zq z (j + 1)) % D) < 54 by omega) (by decide), nI_clamp (show 8 + b (U8 (zq z (j + 1)) % D) < 2 ^ 31 by omega), if_true, if_false, not_true_eq_false, not_false_eq_true, and_true, true_and, and_false, false_and, and_self, or_true, true_or, or_false, false_or, reduceIte, iff_self, Int32.add_zero, y_10, Classical.not_not]
      by_cases h2 : f (8 + b (U8 (zq z (j + 1)) % D)) ≤ U16 (zq z (j + 1)) % 12
      · have es : sgz D f b (zq z (j + 1)) = 12 := by unfold sgz; rw [if_neg h0, if_neg (by omega)]
        rw [es, show nI 12 = 12 from rfl] at G
        rw [if_pos h2]
        exact G
      · have es : sgz D f b (zq z (j + 1)) = U8 (zq z (j + 1)) % D := by unfold sgz; rw [if_neg h0, if_pos (by omega)]
        rw [es] at G
        rw [if_neg h2]
        exact G
end
