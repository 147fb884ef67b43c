/-! an evening of the reference: the whole -/
section
variable {P D : Nat} {f a b : Nat → Nat} {lo : Option ((Nat → Nat) × Nat)}
theorem nI_least {a b : Nat} (ha : a < 2 ^ 31) (hb : b < 2 ^ 31) : (if nI a < nI b then nI a else nI b) = nI (min a b) := by
  by_cases h : a < b
  · rw [if_pos (nI_lt h hb), Nat.min_eq_left (by omega)]
  · rw [if_neg (nI_nlt (by omega) ha), Nat.min_eq_right (by omega)]
theorem m_pass_lp (h8 : P ≤ 8) {h : Nat → Nat} (hh : ∀ p, p < P → h p ≤ 99) {wv : Int32} {W : Nat} (hW : ∀ p, p < 8 → (nI p = wv ↔ p = W)) {v53 : Nat} (h53 : v53 ≤ 99) (x1 : Value) (d n : Nat) (J : sm_J) (K : Option Value → sm_H → Prop) {I : sm_I} (hP : I 103 6 = nI P) (hE : I 103 23 = nI v53) : ∀ (w k : Nat), k + w = P → ∀ I1 : sm_I, (∀ x c, ¬ x = 114 → I1 x c = I x c) → (∀ p, p < P → I1 114 p = nI (if p < k ∧ p ≠ W then h p - 1 else h p)) →
    (∀ I', (∀ x c, ¬ (x = 114 ∨ (x = 103 ∧ c = 23)) → I' x c = I x c) → I' 103 23 = nI (min 99 (v53 + 1)) → (∀ p, p < P → I' 114 p = nI (if p < P ∧ p ≠ W then h p - 1 else h p)) → K none (sm_SH n, I', J)) →
    sm_Ok (d + 1) 183 168 [.ref 103, x1, .int wv, .int (nI k)] [] (sm_SH n, I1, J) K
  | 0, k, hk, I1, f1, f2, hK => by
    have hk : k = P := by omega
    subst hk
    have eP : I1 103 6 = nI k := by rw [f1 _ _ (by omega), hP]
    have e3 : I1 103 23 = nI v53 := by rw [f1 _ _ (by omega), hE]
    have e9 : (if (99 : Int32) < nI (v53 + 1) then (99 : Int32) else nI (v53 + 1)) = nI (min 99 (v53 + 1)) := nI_least (a := 99) (by decide) (by omega)
    rw [z183_168]
    simp only [z183_0, z183_1, z183_2, z183_5, z183_6, z183_7, z183_8, z183_10, z183_13, z183_14, z183_17, z183_18, z183_19, z183_20, z183_21, z183_24, z183_25, z183_27, z183_28, z183_31, z183_32, z183_33, z183_34, z183_35, z183_38, z183_39, z183_42, z183_43, z183_44, z183_47, z183_48, z183_49, z183_51, z183_54, z183_55, z183_56, z183_59, z183_60, z183_61, z183_62, z183_65, z183_66, z183_67, z183_70, z183_71, z183_74, z183_75, z183_76, z183_78, z183_79, z183_82, z183_85, z183_86, z183_89, z183_90, z183_91, z183_92, z183_93, z183_96, z183_97, z183_98, z183_99, z183_102, z183_103, z183_104, z183_105, z183_106, z183_109, z183_110, z183_111, z183_112, z183_115, z183_116, z183_119, z183_120, z183_121, z183_124, z183_125, z183_128, z183_129, z183_132, z183_133, z183_134, z183_135, z183_136, z183_139, z183_140, z183_143, z183_144, z183_145, z183_148, z183_149, z183_150, z183_151, z183_152, z183_155, z183_158, z183_160, z183_163, z183_164, z183_165, z183_166, z183_167, z183_169, z183_170, z183_173, z183_176, z183_177, z183_180, z183_181, z183_182, z183_183, z183_184, z183_185, z183_188, z183_189, z183_192, z183_193, z183_194, z183_197, z183_198, z183_201, z183_202, z183_203, z183_204, z183_207, z183_210, z183_211, z183_213, z183_214, z183_217, z183_218, z183_219, z183_222, z183_225, sm_cti, sm_ctr, sm_ctn, sm_nbi, Option.toList_some, Option.toList_none, List.cons_append, List.nil_append, ne_eq, reduceCtorEq, not_false_eq_true, Nat.reduceLeDiff, kc103, eP, e3, Int32.le_refl, m_least, nI_1, e9, if_true, if_false, not_true_eq_false, not_false_eq_true, and_true, true_and, and_false, false_and, and_self, or_true, true_or, or_false, false_or, reduceIte, iff_self, Int32.add_zero, y_10, Classical.not_not]
    exact hK _ (fun x c hx => by rw [uI_o _ _ (by omega), f1 x c (by omega)]) (uI_s _ _ _ _) (fun p hp => by rw [uI_q _ _ (by omega), f2 p hp])
  | w + 1, k, hk, I1, f1, f2, hK => by
    have hkP : k < P := by omega
    have eP : I1 103 6 = nI P := by rw [f1 _ _ (by omega), hP]
    have vk : I1 114 k = nI (h k) := by rw [f2 k hkP, if_neg (by omega)]
    have hk9 := hh k hkP
    have e0 : (nI (h k) ≤ 0) = (h k = 0) := propext (Iff.trans (nI_leI (b := 0) (by omega) (by decide)) (by omega))
    have s0 : nI (h k) - 0 = nI (h k) := Int32.sub_zero _
    have next : ∀ I2 : sm_I, (∀ x c, ¬ x = 114 → I2 x c = I x c) → (∀ p, p < P → I2 114 p = nI (if p < k + 1 ∧ p ≠ W then h p - 1 else h p)) → sm_Ok (d + 1) 183 168 [.ref 103, x1, .int wv, .int (nI (k + 1))] [] (sm_SH n, I2, J) K := fun I2 g1 g2 => m_pass_lp h8 hh hW h53 x1 d n J K hP hE w (k + 1) (by omega) I2 g1 g2 hK
    have same : ∀ v, v = h k → (v = (if k ≠ W then h k - 1 else h k)) → sm_Ok (d + 1) 183 168 [.ref 103, x1, .int wv, .int (nI (k + 1))] [] (sm_SH n, sm_uI I1 114 k (nI v), J) K := by
      intro v hv1 hv2
      refine next _ (fun x c hx => by rw [uI_q _ _ hx, f1 x c hx]) (fun p hp => ?_)
      by_cases hpe : p = k
      · rw [hpe, uI_s, hv2]
        congr 1
        by_cases hw : k ≠ W
        · rw [if_pos hw, if_pos ⟨by omega, hw⟩]
        · rw [if_neg hw, if_neg (fun z => hw z.2)]
      · rw [uI_o _ _ (by omega), f2 p hp]
        congr 1
        by_cases hpk : p < k ∧ p ≠ W
        · rw [if_pos hpk, if_pos ⟨by omega, hpk.2⟩]
        · rw [if_neg hpk, if_neg (by omega)]
    rw [z183_168]
    simp only [z183_169, z183_170, z183_173, z183_176, z183_177, z183_180, z183_181, z183_182, z183_183, z183_184, z183_185, z183_188, z183_189, z183_192, z183_193, z183_194, z183_197, z183_198, z183_201, z183_202, z183_203, z183_204, z183_207, sm_cti, sm_ctr, sm_ctn, sm_nbi, Option.toList_some, Option.toList_none, List.cons_append, List.nil_append, ne_eq, reduceCtorEq, not_false_eq_true, Nat.reduceLeDiff, kc103, kc114, rf103_21, eP, if_neg (nI_ge hkP (show P < 2 ^ 31 by omega)), hW k (by omega), y_inN (show k < 8 by omega) (by decide), nI_clamp (show k < 2 ^ 31 by omega), vk, e0, s0, nI_1, if_true, if_false, not_true_eq_false, not_false_eq_true, and_true, true_and, and_false, false_and, and_self, or_true, true_or, or_false, false_or, reduceIte, iff_self, Int32.add_zero, y_10, Classical.not_not]
    by_cases hw : k = W
    · rw [if_pos hw]
      exact same (h k) rfl (by rw [if_neg (fun z => z hw)])
    · rw [if_neg hw]
      by_cases h0 : h k = 0
      · rw [if_pos h0]
        exact same (h k) rfl (by rw [if_pos hw, h0])
      · rw [if_neg h0]
        have e1 : nI (h k) - 1 = nI (h k - 1) := nI_sub (a := h k) (b := 1) (by omega)
        rw [e1]
        refine next _ (fun x c hx => by rw [uI_q _ _ hx, f1 x c hx]) (fun p hp => ?_)
        by_cases hpe : p = k
        · rw [hpe, uI_s, if_pos ⟨by omega, hw⟩]
        · rw [uI_o _ _ (by omega), f2 p hp]
          congr 1
          by_cases hpk : p < k ∧ p ≠ W
          · rw [if_pos hpk, if_pos ⟨by omega, hpk.2⟩]
          · rw [if_neg hpk, if_neg (by omega)]
theorem m_pass (hb : bdf P D f a b) {I : sm_I} (hM : mFo P D f a b I) (hL : mLw lo I) {g : Nat → Nat} (hg : bdg g) (hT : mTa P D g I) {e : Nat} (he : e < D ∨ e = 12) (d n : Nat) (J : sm_J) (K : Option Value → sm_H → Prop)
    (hK : ∀ I', (∀ x c, ¬ (x = 112 ∨ x = 113 ∨ x = 114 ∨ x = 115 ∨ (x = 103 ∧ ((14 ≤ c ∧ c ≤ 18) ∨ c = 23 ∨ c = 24))) → I' x c = I x c) → mTa P D (psg P D f a b lo g e) I' → I' 103 24 = nI (pay P D f a b lo g e) → K none (sm_SH n, I', J)) :
    sm_Ok (d + 48) 183 0 [.ref 103, .int (nI e), .null, .null] [] (sm_SH n, I, J) K := by
  obtain ⟨b1, b2, b3, b4⟩ := id hb
  obtain ⟨M1, M2, M3, M4⟩ := id hM
  obtain ⟨T1, T2, T3⟩ := id hT
  have g53 : g 53 ≤ 99 := hg 53 (by omega) (by omega) (by omega)
  have gm : ∀ p, p < 8 → g (32 + p) ≤ 99 := fun p hp => by
    have := hg (32 + p) (by omega) (by omega) (by omega)
    rw [top_m (by omega)] at this
    exact this
  by_cases hD : e < D
  · obtain ⟨c1, c2, c3⟩ := b4 e hD
    have hn12 : ¬ nI e = 12 := fun z => by have := (nI_eq (b := 12) (by omega) (by decide)).mp z; omega
    have i8 : sm_uI I 103 24 0 108 e = nI (a e) := by rw [uI_q _ _ (by omega), (M4 e hD).1]
    have im : sm_uI I 103 24 0 114 (a e) = nI (g (32 + a e)) := by rw [uI_q _ _ (by omega), (T1 _ c1).2]
    simp only [z183_0, z183_1, z183_2, z183_5, z183_6, z183_7, z183_8, z183_10, z183_13, z183_14, z183_17, z183_18, z183_19, z183_20, z183_21, z183_24, z183_25, z183_27, z183_28, z183_31, z183_32, z183_33, z183_34, z183_35, z183_38, z183_39, z183_42, z183_43, z183_44, z183_47, z183_48, z183_49, z183_51, z183_54, z183_55, z183_56, z183_59, z183_60, z183_61, z183_62, z183_65, z183_66, z183_67, z183_70, z183_71, z183_74, z183_75, z183_76, z183_78, z183_79, z183_82, z183_85, z183_86, z183_89, z183_90, z183_91, z183_92, z183_93, z183_96, z183_97, z183_98, z183_99, z183_102, z183_103, z183_104, z183_105, z183_106, z183_109, z183_110, z183_111, z183_112, z183_115, z183_116, z183_119, z183_120, z183_121, z183_124, z183_125, z183_128, z183_129, z183_132, z183_133, z183_134, z183_135, z183_136, z183_139, z183_140, z183_143, z183_144, z183_145, z183_148, z183_149, z183_150, z183_151, z183_152, z183_155, z183_158, z183_160, z183_163, z183_164, z183_165, z183_166, z183_167, z183_169, z183_170, z183_173, z183_176, z183_177, z183_180, z183_181, z183_182, z183_183, z183_184, z183_185, z183_188, z183_189, z183_192, z183_193, z183_194, z183_197, z183_198, z183_201, z183_202, z183_203, z183_204, z183_207, z183_210, z183_211, z183_213, z183_214, z183_217, z183_218, z183_219, z183_222, z183_225, sm_cti, sm_ctr, sm_ctn, sm_nbi, Option.toList_some, Option.toList_none, List.cons_append, List.nil_append, ne_eq, reduceCtorEq, not_false_eq_true, Nat.reduceLeDiff, kc103, kc108, kc114, rf103_8, rf103_21, rc103, hn12, i8, im, y_inN (show e < 12 by omega) (by decide), nI_clamp (show e < 2 ^ 31 by omega), y_inN (show a e < 8 by omega) (by decide), nI_clamp (show a e < 2 ^ 31 by omega), if_true, if_false, not_true_eq_false, not_false_eq_true, and_true, true_and, and_false, false_and, and_self, or_true, true_or, or_false, false_or, reduceIte, iff_self, Int32.add_zero, y_10, Classical.not_not]
    refine m_movesBy hb (mFo_f hM (fun x c hx => uI_o _ _ (by omega))) (mLw_f hL (fun x c hx => uI_o _ _ (by omega))) (mTa_f hT (fun x c hx => uI_o _ _ (by omega))) hD d n J _ (fun I1 w1 => ?_)
    have f1 : ∀ x c, ¬ (x = 112 ∨ (x = 103 ∧ ((14 ≤ c ∧ c ≤ 18) ∨ c = 24))) → I1 x c = I x c := fun x c hx => by rw [w1 x c (by omega), uI_o _ _ (by omega)]
    have p0 : I1 103 24 = 0 := by rw [w1 _ _ (by omega), uI_s]
    have hmb := mvb_le P f a b lo e (g (32 + a e)) (g (40 + e)) (g 53)
    have hgm := gm (a e) (by omega)
    have eM : (if (99 : Int32) < nI (g (32 + a e) + mvb P f a b lo e (g (32 + a e)) (g (40 + e)) (g 53)) then (99 : Int32) else nI (g (32 + a e) + mvb P f a b lo e (g (32 + a e)) (g (40 + e)) (g 53))) = nI (mvt P f a b lo e (g (32 + a e)) (g (40 + e)) (g 53)) := nI_least (a := 99) (by decide) (by omega)
    have hm : mvt P f a b lo e (g (32 + a e)) (g (40 + e)) (g 53) ≤ 99 := Nat.min_le_left _ _
    obtain ⟨pl1, pl2, pl3⟩ := pay_le (P := P) (D := D) (f := f) (a := a) (b := b) lo g e
    have epay : (if mvt P f a b lo e (g (32 + a e)) (g (40 + e)) (g 53) < 20 then 0 else min (mvt P f a b lo e (g (32 + a e)) (g (40 + e)) (g 53) / 10) (min (g (40 + e)) (g (24 + a e)))) = pay P D f a b lo g e := by
      unfold pay
      rw [if_pos hD]
    have gs := hg (40 + e) (by omega) (by omega) (by omega)
    have gp1 := hg (24 + a e) (by omega) (by omega) (by omega)
    have gp2 := hg (24 + b e) (by omega) (by omega) (by omega)
    have ts1 := top_le (40 + e)
    have ts2 := top_le (24 + a e)
    have ts3 := top_le (24 + b e)
    simp only [z183_0, z183_1, z183_2, z183_5, z183_6, z183_7, z183_8, z183_10, z183_13, z183_14, z183_17, z183_18, z183_19, z183_20, z183_21, z183_24, z183_25, z183_27, z183_28, z183_31, z183_32, z183_33, z183_34, z183_35, z183_38, z183_39, z183_42, z183_43, z183_44, z183_47, z183_48, z183_49, z183_51, z183_54, z183_55, z183_56, z183_59, z183_60, z183_61, z183_62, z183_65, z183_66, z183_67, z183_70, z183_71, z183_74, z183_75, z183_76, z183_78, z183_79, z183_82, z183_85, z183_86, z183_89, z183_90, z183_91, z183_92, z183_93, z183_96, z183_97, z183_98, z183_99, z183_102, z183_103, z183_104, z183_105, z183_106, z183_109, z183_110, z183_111, z183_112, z183_115, z183_116, z183_119, z183_120, z183_121, z183_124, z183_125, z183_128, z183_129, z183_132, z183_133, z183_134, z183_135, z183_136, z183_139, z183_140, z183_143, z183_144, z183_145, z183_148, z183_149, z183_150, z183_151, z183_152, z183_155, z183_158, z183_160, z183_163, z183_164, z183_165, z183_166, z183_167, z183_169, z183_170, z183_173, z183_176, z183_177, z183_180, z183_181, z183_182, z183_183, z183_184, z183_185, z183_188, z183_189, z183_192, z183_193, z183_194, z183_197, z183_198, z183_201, z183_202, z183_203, z183_204, z183_207, z183_210, z183_211, z183_213, z183_214, z183_217, z183_218, z183_219, z183_222, z183_225, sm_cti, sm_ctr, sm_ctn, sm_nbi, Option.toList_some, Option.toList_none, List.cons_append, List.nil_append, ne_eq, reduceCtorEq, not_false_eq_true, Nat.reduceLeDiff, kc103, kc114, rf103_21, m_least, nI_add, eM, uI_s, y_inN (show a e < 8 by omega) (by decide), nI_clamp (show a e < 2 ^ 31 by omega), if_true, if_false, not_true_eq_false, not_false_eq_true, and_true, true_and, and_false, false_and, and_self, or_true, true_or, or_false, false_or, reduceIte, iff_self, Int32.add_zero, y_10, Classical.not_not]
    -- the loop behind
    have go : ∀ (I2 : sm_I) (M' Y : Nat), Y = pay P D f a b lo g e → M' = (if 0 < Y then mvt P f a b lo e (g (32 + a e)) (g (40 + e)) (g 53) - 10 else mvt P f a b lo e (g (32 + a e)) (g (40 + e)) (g 53)) → (∀ x c, ¬ (x = 112 ∨ x = 113 ∨ x = 114 ∨ x = 115 ∨ (x = 103 ∧ ((14 ≤ c ∧ c ≤ 18) ∨ c = 24))) → I2 x c = I x c) → I2 103 24 = nI Y → (∀ p, p < P → I2 114 p = nI (if p = a e then M' else g (32 + p))) → (∀ p, p < P → I2 113 p = nI (if p = a e then g (24 + p) - Y else if p = b e then min 999 (g (24 + p) + Y) else g (24 + p))) → (∀ o, o < D → I2 115 o = nI (if o = e then g (40 + o) - Y else g (40 + o))) → sm_Ok (d + 48) 183 168 [.ref 103, .int (nI e), .int (nI (a e)), .int 0] [] (sm_SH n, I2, J) K := by
      intro I2 M' Y hY hM' u1 u2 u3 u4 u5
      have hM9 : M' ≤ 99 := by
        rw [hM']
        split <;> omega
      rw [show (0 : Int32) = nI 0 from nI_0.symm]
      refine m_pass_lp b1 (h := fun p => if p = a e then M' else g (32 + p)) (fun p hp => ?_) (wv := nI (a e)) (W := a e) (fun p hp => nI_eq (by omega) (by omega)) (v53 := g 53) g53 _ (d + 47) n J K (I := I2) (by rw [u1 _ _ (by omega), M1]) (by rw [u1 _ _ (by omega), T3]) P 0 (by omega) I2 (fun x c _ => rfl) (fun p hp => by rw [if_neg (by omega), u3 p hp]) (fun I' w1 w2 w3 => ?_)
      · split
        · exact hM9
        · exact gm p (by omega)
      · refine hK I' (fun x c hx => by rw [w1 x c (by omega), u1 x c (by omega)]) ⟨fun p hp => ⟨?_, ?_⟩, fun o ho => ?_, ?_⟩ (by rw [w1 _ _ (by omega), u2, hY])
        · rw [w1 _ _ (by omega), u4 p hp, psg_p hb g hD (by omega), ← hY]
        · rw [w3 p hp, psg_m hb g hD (by omega), ← hY, hM']
          congr 1
          by_cases h2 : p = a e
          · rw [if_pos h2, if_neg (by omega), if_pos h2]
          · rw [if_neg h2, if_neg h2, if_pos hp, if_pos ⟨hp, h2⟩]
        · rw [w1 _ _ (by omega), u5 o ho, psg_s hb g hD (by omega), ← hY]
        · rw [w2, psg_ev]
    generalize hMM : mvt P f a b lo e (g (32 + a e)) (g (40 + e)) (g 53) = M at *
    have e20 : (nI M < 20) = (M < 20) := propext (nI_ltI (b := 20) (by omega) (by decide))
    simp only [e20]
    by_cases h20 : M < 20
    · rw [if_pos h20] at epay ⊢
      refine go _ M 0 epay rfl (fun x c hx => ?_) ?_ (fun p hp => ?_) (fun p hp => ?_) (fun o ho => ?_)
      · rw [uI_q _ _ (by omega), f1 x c (by omega)]
      · rw [uI_q _ _ (by omega), p0]
        rfl
      · by_cases h2 : p = a e
        · rw [if_pos h2, h2, uI_s]
        · rw [if_neg h2, uI_o _ _ (by omega), f1 _ _ (by omega), (T1 p hp).2]
      · have hgp := hg (24 + p) (by omega) (by omega) (by omega)
        rw [top_p (by omega)] at hgp
        rw [uI_q _ _ (by omega), f1 _ _ (by omega), (T1 p hp).1]
        congr 1
        (repeat' split) <;> omega
      · rw [uI_q _ _ (by omega), f1 _ _ (by omega), T2 o ho]
        congr 1
        split <;> omega
    · rw [if_neg h20] at epay ⊢
      have is : sm_uI I1 114 (a e) (nI M) 115 e = nI (g (40 + e)) := by rw [uI_q _ _ (by omega), f1 _ _ (by omega), T2 e hD]
      have ip : sm_uI I1 114 (a e) (nI M) 113 (a e) = nI (g (24 + a e)) := by rw [uI_q _ _ (by omega), f1 _ _ (by omega), (T1 _ c1).1]
      have l1 : (if nI (g (40 + e)) < nI (g (24 + a e)) then nI (g (40 + e)) else nI (g (24 + a e))) = nI (min (g (40 + e)) (g (24 + a e))) := nI_least (by omega) (by omega)
      have ed : nI M / 10 = nI (M / 10) := by
        have : ∀ x, x < 100 → nI x / 10 = nI (x / 10) := by decide +kernel
        exact this _ (by omega)
      have t10 : ¬ (10 : Int32) = 0 := by decide
      have l2 : (if nI (min (g (40 + e)) (g (24 + a e))) < nI (M / 10) then nI (min (g (40 + e)) (g (24 + a e))) else nI (M / 10)) = nI (pay P D f a b lo g e) := by
        rw [nI_least (by omega) (by omega), ← epay, Nat.min_comm]
      generalize hPP : pay P D f a b lo g e = Y at *
      obtain ⟨y1, y2⟩ := pl2 hD
      -- the cells as they are set one behind the other
      have i9 : ∀ I2 : sm_I, (∀ c, I2 109 c = I 109 c) → I2 109 e = nI (b e) := fun I2 h2 => by rw [h2, (M4 e hD).2]
      have q1 : ∀ c, sm_uI (sm_uI (sm_uI (sm_uI I1 114 (a e) (nI M)) 103 24 (nI Y)) 115 e (nI (g (40 + e) - Y))) 113 (a e) (nI (g (24 + a e) - Y)) 109 c = I 109 c := fun c => by rw [uI_q _ _ (by omega), uI_q _ _ (by omega), uI_q _ _ (by omega), uI_q _ _ (by omega), f1 _ _ (by omega)]
      have r1 : sm_uI (sm_uI I1 114 (a e) (nI M)) 103 24 (nI Y) 115 e = nI (g (40 + e)) := by rw [uI_q _ _ (by omega), is]
      have r2 : sm_uI (sm_uI I1 114 (a e) (nI M)) 103 24 (nI Y) 103 24 = nI Y := uI_s _ _ _ _
      have r3 : sm_uI (sm_uI (sm_uI I1 114 (a e) (nI M)) 103 24 (nI Y)) 115 e (nI (g (40 + e) - Y)) 113 (a e) = nI (g (24 + a e)) := by rw [uI_q _ _ (by omega), uI_q _ _ (by omega), ip]
      have r4 : sm_uI (sm_uI (sm_uI I1 114 (a e) (nI M)) 103 24 (nI Y)) 115 e (nI (g (40 + e) - Y)) 103 24 = nI Y := by rw [uI_q _ _ (by omega), uI_s]
      have r5 : sm_uI (sm_uI (sm_uI (sm_uI I1 114 (a e) (nI M)) 103 24 (nI Y)) 115 e (nI (g (40 + e) - Y))) 113 (a e) (nI (g (24 + a e) - Y)) 109 e = nI (b e) := i9 _ q1
      have r6 : sm_uI (sm_uI (sm_uI (sm_uI I1 114 (a e) (nI M)) 103 24 (nI Y)) 115 e (nI (g (40 + e) - Y))) 113 (a e) (nI (g (24 + a e) - Y)) 113 (b e) = nI (g (24 + b e)) := by rw [uI_o _ _ (by omega), uI_q _ _ (by omega), uI_q _ _ (by omega), uI_q _ _ (by omega), f1 _ _ (by omega), (T1 _ c2).1]
      have r7 : sm_uI (sm_uI (sm_uI (sm_uI I1 114 (a e) (nI M)) 103 24 (nI Y)) 115 e (nI (g (40 + e) - Y))) 113 (a e) (nI (g (24 + a e) - Y)) 103 24 = nI Y := by rw [uI_q _ _ (by omega), uI_q _ _ (by omega), uI_s]
      have r8 : ∀ v, sm_uI (sm_uI (sm_uI (sm_uI (sm_uI I1 114 (a e) (nI M)) 103 24 (nI Y)) 115 e (nI (g (40 + e) - Y))) 113 (a e) (nI (g (24 + a e) - Y))) 113 (b e) v 114 (a e) = nI M := fun v => by rw [uI_q _ _ (by omega), uI_q _ _ (by omega), uI_q _ _ (by omega), uI_q _ _ (by omega), uI_s]
      have r9 : ∀ v, sm_uI (sm_uI (sm_uI (sm_uI (sm_uI I1 114 (a e) (nI M)) 103 24 (nI Y)) 115 e (nI (g (40 + e) - Y))) 113 (a e) (nI (g (24 + a e) - Y))) 113 (b e) v 103 24 = nI Y := fun v => by rw [uI_q _ _ (by omega), r7]
      have s1 : nI (g (40 + e)) - nI Y = nI (g (40 + e) - Y) := nI_sub y1
      have s2 : nI (g (24 + a e)) - nI Y = nI (g (24 + a e) - Y) := nI_sub y2
      have l3 : (if (999 : Int32) < nI (g (24 + b e) + Y) then (999 : Int32) else nI (g (24 + b e) + Y)) = nI (min 999 (g (24 + b e) + Y)) := nI_least (a := 999) (by decide) (by omega)
      have e0 : (nI Y ≤ 0) = (Y = 0) := propext (Iff.trans (nI_leI (b := 0) (by omega) (by decide)) (by omega))
      have sM0 : nI M - 0 = nI M := Int32.sub_zero _
      have sM : nI M - 10 = nI (M - 10) := nI_sub (a := M) (b := 10) (by omega)
      simp only [z183_0, z183_1, z183_2, z183_5, z183_6, z183_7, z183_8, z183_10, z183_13, z183_14, z183_17, z183_18, z183_19, z183_20, z183_21, z183_24, z183_25, z183_27, z183_28, z183_31, z183_32, z183_33, z183_34, z183_35, z183_38, z183_39, z183_42, z183_43, z183_44, z183_47, z183_48, z183_49, z183_51, z183_54, z183_55, z183_56, z183_59, z183_60, z183_61, z183_62, z183_65, z183_66, z183_67, z183_70, z183_71, z183_74, z183_75, z183_76, z183_78, z183_79, z183_82, z183_85, z183_86, z183_89, z183_90, z183_91, z183_92, z183_93, z183_96, z183_97, z183_98, z183_99, z183_102, z183_103, z183_104, z183_105, z183_106, z183_109, z183_110, z183_111, z183_112, z183_115, z183_116, z183_119, z183_120, z183_121, z183_124, z183_125, z183_128, z183_129, z183_132, z183_133, z183_134, z183_135, z183_136, z183_139, z183_140, z183_143, z183_144, z183_145, z183_148, z183_149, z183_150, z183_151, z183_152, z183_155, z183_158, z183_160, z183_163, z183_164, z183_165, z183_166, z183_167, z183_169, z183_170, z183_173, z183_176, z183_177, z183_180, z183_181, z183_182, z183_183, z183_184, z183_185, z183_188, z183_189, z183_192, z183_193, z183_194, z183_197, z183_198, z183_201, z183_202, z183_203, z183_204, z183_207, z183_210, z183_211, z183_213, z183_214, z183_217, z183_218, z183_219, z183_222, z183_225, sm_cti, sm_ctr, sm_ctn, sm_nbi, Option.toList_some, Option.toList_none, List.cons_append, List.nil_append, ne_eq, reduceCtorEq, not_false_eq_true, Nat.reduceLeDiff, kc103, kc109, kc113, kc114, kc115, rf103_9, rf103_20, rf103_21, rf103_22, m_least, is, ip, l1, ed, t10, l2, r1, r2, r3, r4, r5, r6, r7, r8, r9, s1, s2, nI_add, l3, e0, sM0, sM, uI_s, y_inN (show e < 12 by omega) (by decide), nI_clamp (show e < 2 ^ 31 by omega), y_inN (show a e < 8 by omega) (by decide), nI_clamp (show a e < 2 ^ 31 by omega), y_inN (show b e < 8 by omega) (by decide), nI_clamp (show b e < 2 ^ 31 by omega), if_true, if_false, not_true_eq_false, not_false_eq_true, and_true, true_and, and_false, false_and, and_self, or_true, true_or, or_false, false_or, reduceIte, iff_self, Int32.add_zero, y_10, Classical.not_not]
      have fin : ∀ M' : Nat, M' = (if 0 < Y then M - 10 else M) → sm_Ok (d + 48) 183 168 [.ref 103, .int (nI e), .int (nI (a e)), .int 0] [] (sm_SH n, sm_uI (sm_uI (sm_uI (sm_uI (sm_uI (sm_uI I1 114 (a e) (nI M)) 103 24 (nI Y)) 115 e (nI (g (40 + e) - Y))) 113 (a e) (nI (g (24 + a e) - Y))) 113 (b e) (nI (min 999 (g (24 + b e) + Y)))) 114 (a e) (nI M'), J) K := by
        intro M' hM'
        refine go _ M' Y rfl hM' (fun x c hx => ?_) ?_ (fun p hp => ?_) (fun p hp => ?_) (fun o ho => ?_)
        · rw [uI_q _ _ (by omega), uI_q _ _ (by omega), uI_q _ _ (by omega), uI_q _ _ (by omega), uI_o _ _ (by omega), uI_q _ _ (by omega), f1 x c (by omega)]
        · rw [uI_q _ _ (by omega), r9]
        · by_cases h2 : p = a e
          · rw [if_pos h2, h2, uI_s]
          · rw [if_neg h2, uI_o _ _ (by omega), uI_q _ _ (by omega), uI_q _ _ (by omega), uI_q _ _ (by omega), uI_q _ _ (by omega), uI_o _ _ (by omega), f1 _ _ (by omega), (T1 p hp).2]
        · rw [uI_q _ _ (by omega)]
          by_cases h2 : p = b e
          · have h3 : ¬ p = a e := by omega
            rw [if_neg h3, if_pos h2, h2, uI_s]
          · rw [uI_o _ _ (by omega)]
            by_cases h3 : p = a e
            · rw [if_pos h3, h3, uI_s]
            · rw [if_neg h3, if_neg h2, uI_o _ _ (by omega), uI_q _ _ (by omega), uI_q _ _ (by omega), uI_q _ _ (by omega), f1 _ _ (by omega), (T1 p hp).1]
        · rw [uI_q _ _ (by omega), uI_q _ _ (by omega), uI_q _ _ (by omega)]
          by_cases h2 : o = e
          · rw [if_pos h2, h2, uI_s]
          · rw [if_neg h2, uI_o _ _ (by omega), uI_q _ _ (by omega), uI_q _ _ (by omega), f1 _ _ (by omega), T2 o ho]
      by_cases hY0 : Y = 0
      · have F := fin M (by rw [if_neg (by omega)])
        simp only [hY0, if_true, if_false, not_true_eq_false, not_false_eq_true, and_true, true_and, and_false, false_and, and_self, or_true, true_or, or_false, false_or, reduceIte, iff_self, Int32.add_zero, y_10, Classical.not_not] at F ⊢
        exact F
      · have F := fin (M - 10) (by rw [if_pos (by omega)])
        simp only [hY0, if_true, if_false, not_true_eq_false, not_false_eq_true, and_true, true_and, and_false, false_and, and_self, or_true, true_or, or_false, false_or, reduceIte, iff_self, Int32.add_zero, y_10, Classical.not_not] at F ⊢
        exact F
  · have h12 : e = 12 := he.resolve_left hD
    have epay : pay P D f a b lo g e = 0 := by
      unfold pay
      rw [if_neg hD]
    rw [epay] at hK
    have hn12 : nI e = 12 := by rw [h12]; rfl
    simp only [z183_0, z183_1, z183_2, z183_5, z183_6, z183_7, z183_8, z183_10, z183_13, z183_14, z183_17, z183_18, z183_19, z183_20, z183_21, z183_24, z183_25, z183_27, z183_28, z183_31, z183_32, z183_33, z183_34, z183_35, z183_38, z183_39, z183_42, z183_43, z183_44, z183_47, z183_48, z183_49, z183_51, z183_54, z183_55, z183_56, z183_59, z183_60, z183_61, z183_62, z183_65, z183_66, z183_67, z183_70, z183_71, z183_74, z183_75, z183_76, z183_78, z183_79, z183_82, z183_85, z183_86, z183_89, z183_90, z183_91, z183_92, z183_93, z183_96, z183_97, z183_98, z183_99, z183_102, z183_103, z183_104, z183_105, z183_106, z183_109, z183_110, z183_111, z183_112, z183_115, z183_116, z183_119, z183_120, z183_121, z183_124, z183_125, z183_128, z183_129, z183_132, z183_133, z183_134, z183_135, z183_136, z183_139, z183_140, z183_143, z183_144, z183_145, z183_148, z183_149, z183_150, z183_151, z183_152, z183_155, z183_158, z183_160, z183_163, z183_164, z183_165, z183_166, z183_167, z183_169, z183_170, z183_173, z183_176, z183_177, z183_180, z183_181, z183_182, z183_183, z183_184, z183_185, z183_188, z183_189, z183_192, z183_193, z183_194, z183_197, z183_198, z183_201, z183_202, z183_203, z183_204, z183_207, z183_210, z183_211, z183_213, z183_214, z183_217, z183_218, z183_219, z183_222, z183_225, sm_cti, sm_ctr, sm_ctn, sm_nbi, Option.toList_some, Option.toList_none, List.cons_append, List.nil_append, ne_eq, reduceCtorEq, not_false_eq_true, Nat.reduceLeDiff, kc103, hn12, if_true, if_false, not_true_eq_false, not_false_eq_true, and_true, true_and, and_false, false_and, and_self, or_true, true_or, or_false, false_or, reduceIte, iff_self, Int32.add_zero, y_10, Classical.not_not]
    rw [show (.int (0 : Int32) : Value) = .int (nI 0) from rfl]
    refine m_pass_lp b1 (h := fun p => g (32 + p)) (fun p hp => gm p (by omega)) (wv := -1) (W := 8) (fun p hp => ⟨fun z => absurd z (y_nm1 (by omega)), fun z => absurd z (by omega)⟩) (v53 := g 53) g53 _ (d + 47) n J K (I := sm_uI I 103 24 0) (by rw [uI_o _ _ (by omega), M1]) (by rw [uI_o _ _ (by omega), T3]) P 0 (by omega) _ (fun x c _ => rfl) (fun p hp => by rw [if_neg (by omega), uI_q _ _ (by omega), (T1 p hp).2]) (fun I' w1 w2 w3 => ?_)
    refine hK I' (fun x c hx => by rw [w1 x c (by omega), uI_o _ _ (by omega)]) ⟨fun p hp => ⟨?_, ?_⟩, fun o ho => ?_, ?_⟩ (by rw [w1 _ _ (by omega), uI_s]; rfl)
    · rw [w1 _ _ (by omega), uI_q _ _ (by omega), (T1 p hp).1, psg_p' g hD (by omega)]
    · rw [w3 p hp, psg_m' b1 g hD (by omega), if_pos ⟨hp, by omega⟩, if_pos hp]
    · rw [w1 _ _ (by omega), uI_q _ _ (by omega), T2 o ho, psg_s' b1 g hD (by omega)]
    · rw [w2, psg_ev]
end
