/-! both answer alike: round -/
theorem ev_sh : ∀ q, q < 8 → (1 : Int32) <<< (((4 : Int32) * nI q) &&& 31) = nI (16 ^ q) := by decide +kernel
theorem nI_eq32 {x y : Nat} (hx : x < 2 ^ 32) (hy : y < 2 ^ 32) : (nI x = nI y) = (x = y) := by
  apply propext
  constructor
  · intro h
    have h1 : (BitVec.ofNat 32 x) = BitVec.ofNat 32 y := congrArg Int32.toBitVec h
    have h2 := congrArg BitVec.toNat h1
    rw [BitVec.toNat_ofNat, BitVec.toNat_ofNat, Nat.mod_eq_of_lt hx, Nat.mod_eq_of_lt hy] at h2
    exact h2
  · intro h
    rw [h]
def rf0 (o : Option Nat) : Nat := match o with
  | none => 13
  | some t => pc t
def rb0 (o : Option Nat) : Nat := match o with
  | none => 0
  | some t => t
theorem mrg_s2 {ok : Nat → Bool} {s : Nat} : mrg ok (s + 1) = if ok s = true ∧ pc s < rf0 (mrg ok s) then some s else mrg ok s := by
  rw [mrg_s]
  cases mrg ok s with
  | none =>
    show (if ok s = true then some s else none) = if ok s = true ∧ pc s < rf0 none then some s else none
    have h13 : pc s < rf0 none := Nat.lt_succ_of_le (pc_le s)
    by_cases h : ok s = true
    · rw [if_pos h, if_pos ⟨h, h13⟩]
    · rw [if_neg h, if_neg (fun z => h z.1)]
  | some t => rfl
theorem mrg_lt {ok : Nat → Bool} {s : Nat} (h : 0 < s) : rb0 (mrg ok s) < s := by
  cases hm : mrg ok s with
  | none => exact h
  | some t => exact (mrg_in hm).1
theorem tb_nIs {s k : Nat} (hk : k < 32) : tb (nI s) k = s.testBit k := by
  rw [tb_nI]
  have : decide (k < 32) = true := decide_eq_true hk
  rw [this, Bool.true_and]
/-- the least sum of a set -/
def lsv (f : Nat → Nat) (z s : Nat) : Nat → Nat
  | 0 => z
  | k + 1 => if s.testBit k = true then min (lsv f z s k) (f (40 + k)) else lsv f z s k
theorem lsv_s {f : Nat → Nat} {z s k : Nat} : lsv f z s (k + 1) = if s.testBit k = true then min (lsv f z s k) (f (40 + k)) else lsv f z s k := rfl
theorem lsv_le {f : Nat → Nat} {z s : Nat} : ∀ k, lsv f z s k ≤ z
  | 0 => Nat.le_refl _
  | k + 1 => by
    have := lsv_le (f := f) (z := z) (s := s) k
    rw [lsv_s]
    split <;> omega
theorem lsv_min {f : Nat → Nat} {s : Nat} : ∀ k, lsv f 999 s k = min 999 (lsv f 1000000 s k)
  | 0 => rfl
  | k + 1 => by
    have := lsv_min (f := f) (s := s) k
    rw [lsv_s, lsv_s]
    split <;> omega
theorem lsv_el {f : Nat → Nat} {z s p : Nat} (hb : s.testBit p = true) : ∀ k, p < k → lsv f z s k ≤ f (40 + p)
  | k + 1, hk => by
    rw [lsv_s]
    by_cases e : p = k
    · subst e
      rw [if_pos hb]
      omega
    · have := lsv_el (f := f) (z := z) hb k (by omega)
      split <;> omega
def ni1 (o : Option Nat) : Int32 := match o with
  | none => -1
  | some j => nI j
section
variable {P D : Nat} {f a b : Nat → Nat}
theorem c_ev_lp {I : sm_I} (hb : bdf P D f a b) (hF : cFo P D f a b I) (s : Nat) (d n : Nat) (J : sm_J) (K : Option Value → sm_H → Prop) : ∀ (w k : Nat), k + w = D →
    (sm_Ok d 43 7 [.ref 84, .int (nI s), .int (nI (evs a s k)), .int (nI (evs b s k)), .int (nI k)] [] (sm_SH n, I, J) K ↔ K (some (.int (bi (decide (evs a s D = evs b s D))))) (sm_SH n, I, J))
  | 0, k, h => by
    have hk : k = D := by omega
    subst hk
    have hD := hb.2.1
    have l : (nI (evs a s k) = nI (evs b s k)) = (evs a s k = evs b s k) := nI_eq32 (evs_lt hD (fun e he => (bd_ab hb e he).1)) (evs_lt hD (fun e he => (bd_ab hb e he).2))
    rw [z43_7]
    by_cases h1 : evs a s k = evs b s k
    · have h1' := eq_true h1
      have b1 : bi (decide (evs a s k = evs b s k)) = 1 := by rw [decide_eq_true h1]; rfl
      rw [b1]
      simp only [z43_78_0, z43_78_1, z43_1, z43_2, z43_3, z43_4, z43_5, z43_9, z43_10, z43_13, z43_16, z43_19, z43_20, z43_22, z43_23, z43_24, z43_25, z43_28, z43_29, z43_30, z43_31, z43_32, z43_35, z43_38, z43_40, z43_41, z43_42, z43_43, z43_44, z43_45, z43_46, z43_47, z43_48, z43_49, z43_52, z43_55, z43_57, z43_58, z43_59, z43_60, z43_61, z43_62, z43_65, z43_68, z43_69, z43_70, z43_73, z43_74, z43_77, z43_78, sm_cti, sm_ctr, sm_ctn, sm_nbi, Option.toList_some, Option.toList_none, List.cons_append, List.nil_append, ne_eq, reduceCtorEq, not_false_eq_true, Nat.reduceLeDiff, kc34, kc84, rf84_0, hF.2.1, l, h1', Int32.le_refl, if_true, if_false, not_true_eq_false, not_false_eq_true, and_true, true_and, and_false, false_and, and_self, or_true, true_or, or_false, false_or, reduceIte, iff_self, Int32.add_zero, y_10, Classical.not_not]
    · have b1 : bi (decide (evs a s k = evs b s k)) = 0 := by rw [decide_eq_false h1]; rfl
      rw [b1]
      simp only [z43_78_0, z43_78_1, z43_1, z43_2, z43_3, z43_4, z43_5, z43_9, z43_10, z43_13, z43_16, z43_19, z43_20, z43_22, z43_23, z43_24, z43_25, z43_28, z43_29, z43_30, z43_31, z43_32, z43_35, z43_38, z43_40, z43_41, z43_42, z43_43, z43_44, z43_45, z43_46, z43_47, z43_48, z43_49, z43_52, z43_55, z43_57, z43_58, z43_59, z43_60, z43_61, z43_62, z43_65, z43_68, z43_69, z43_70, z43_73, z43_74, z43_77, z43_78, sm_cti, sm_ctr, sm_ctn, sm_nbi, Option.toList_some, Option.toList_none, List.cons_append, List.nil_append, ne_eq, reduceCtorEq, not_false_eq_true, Nat.reduceLeDiff, kc34, kc84, rf84_0, hF.2.1, l, h1, Int32.le_refl, if_true, if_false, not_true_eq_false, not_false_eq_true, and_true, true_and, and_false, false_and, and_self, or_true, true_or, or_false, false_or, reduceIte, iff_self, Int32.add_zero, y_10, Classical.not_not]
  | w + 1, k, h => by
    have hD := hb.2.1
    have hk : k < D := by omega
    have e0 : ¬ nI D ≤ nI k := nI_ge hk (by omega)
    obtain ⟨E1, E2⟩ := hF.2.2.2.2 k hk
    obtain ⟨a8, b8⟩ := bd_ab hb k hk
    have eb := tb_nIs (s := s) (show k < 32 by omega)
    have ea : ∀ x, nI x + nI (16 ^ a k) = nI (x + 16 ^ a k) := fun x => nI_add _ _
    have eb2 : ∀ x, nI x + nI (16 ^ b k) = nI (x + 16 ^ b k) := fun x => nI_add _ _
    rw [← c_ev_lp hb hF s d n J K w (k + 1) (by omega), z43_7, evs_s, evs_s]
    cases hbk : s.testBit k with
    | false =>
      rw [if_neg (by decide), if_neg (by decide)]
      simp only [z43_78_0, z43_78_1, z43_1, z43_2, z43_3, z43_4, z43_5, z43_9, z43_10, z43_13, z43_16, z43_19, z43_20, z43_22, z43_23, z43_24, z43_25, z43_28, z43_29, z43_30, z43_31, z43_32, z43_35, z43_38, z43_40, z43_41, z43_42, z43_43, z43_44, z43_45, z43_46, z43_47, z43_48, z43_49, z43_52, z43_55, z43_57, z43_58, z43_59, z43_60, z43_61, z43_62, z43_65, z43_68, z43_69, z43_70, z43_73, z43_74, z43_77, z43_78, sm_cti, sm_ctr, sm_ctn, sm_nbi, Option.toList_some, Option.toList_none, List.cons_append, List.nil_append, ne_eq, reduceCtorEq, not_false_eq_true, Nat.reduceLeDiff, kc34, kc84, rf84_0, hF.2.1, e0, tb_in0 _ (show k < 32 by omega), eb, hbk, nI_1, if_true, if_false, not_true_eq_false, not_false_eq_true, and_true, true_and, and_false, false_and, and_self, or_true, true_or, or_false, false_or, reduceIte, iff_self, Int32.add_zero, y_10, Classical.not_not]
    | true =>
      rw [if_pos rfl, if_pos rfl]
      have tf : (true = false) = False := by decide
      simp only [z43_78_0, z43_78_1, z43_1, z43_2, z43_3, z43_4, z43_5, z43_9, z43_10, z43_13, z43_16, z43_19, z43_20, z43_22, z43_23, z43_24, z43_25, z43_28, z43_29, z43_30, z43_31, z43_32, z43_35, z43_38, z43_40, z43_41, z43_42, z43_43, z43_44, z43_45, z43_46, z43_47, z43_48, z43_49, z43_52, z43_55, z43_57, z43_58, z43_59, z43_60, z43_61, z43_62, z43_65, z43_68, z43_69, z43_70, z43_73, z43_74, z43_77, z43_78, sm_cti, sm_ctr, sm_ctn, sm_nbi, Option.toList_some, Option.toList_none, List.cons_append, List.nil_append, ne_eq, reduceCtorEq, not_false_eq_true, Nat.reduceLeDiff, kc34, kc38, kc39, kc84, rf84_0, rf34_3, rf34_4, hF.2.1, e0, tb_in0 _ (show k < 32 by omega), eb, hbk, tf, E1, E2, ev_sh (a k) a8, ev_sh (b k) b8, ea, eb2, nI_1, y_inN (show k < 12 by omega) (by decide), nI_clamp (show k < 2 ^ 31 by omega), if_true, if_false, not_true_eq_false, not_false_eq_true, and_true, true_and, and_false, false_and, and_self, or_true, true_or, or_false, false_or, reduceIte, iff_self, Int32.add_zero, y_10, Classical.not_not]
theorem c_isEven {I : sm_I} (hb : bdf P D f a b) (hF : cFo P D f a b I) (s : Nat) (d n : Nat) (J : sm_J) (K : Option Value → sm_H → Prop) :
    sm_Ok d 43 0 [.ref 84, .int (nI s), .null, .null, .null] [] (sm_SH n, I, J) K ↔ K (some (.int (bi (decide (evs a s D = evs b s D))))) (sm_SH n, I, J) := by
  rw [← c_ev_lp hb hF s d n J K D 0 (by omega), z43_0]
  simp only [z43_1, z43_2, z43_3, z43_4, z43_5, sm_cti, sm_ctr, sm_ctn, sm_nbi, Option.toList_some, Option.toList_none, List.cons_append, List.nil_append, ne_eq, reduceCtorEq, not_false_eq_true, Nat.reduceLeDiff, if_true, if_false, not_true_eq_false, not_false_eq_true, and_true, true_and, and_false, false_and, and_self, or_true, true_or, or_false, false_or, reduceIte, iff_self, Int32.add_zero, y_10, Classical.not_not]
  exact Iff.rfl
theorem c_ro_lp {I : sm_I} (hb : bdf P D f a b) (hF : cFo P D f a b I) (hT : cTa 40 f I) (x4 x5 : Value) (d n : Nat) (J : sm_J) (K : Option Value → sm_H → Prop) : ∀ (w k : Nat), k + w = D →
    (sm_Ok d 42 4 [.ref 84, .ref 40, .int (ow f k), .int (nI k), x4, x5] [] (sm_SH n, I, J) K ↔ sm_Ok d 42 40 [.ref 84, .ref 40, .int (ow f D), .int (nI D), x4, x5] [] (sm_SH n, I, J) K)
  | 0, k, h => by
    have hk : k = D := by omega
    subst hk
    rw [z42_4]
    simp only [z42_5, z42_6, z42_9, z42_12, sm_cti, sm_ctr, sm_ctn, sm_nbi, Option.toList_some, Option.toList_none, List.cons_append, List.nil_append, ne_eq, reduceCtorEq, not_false_eq_true, Nat.reduceLeDiff, kc34, kc84, rf84_0, hF.2.1, Int32.le_refl, if_true, if_false, not_true_eq_false, not_false_eq_true, and_true, true_and, and_false, false_and, and_self, or_true, true_or, or_false, false_or, reduceIte, iff_self, Int32.add_zero, y_10, Classical.not_not]
  | w + 1, k, h => by
    have hD := hb.2.1
    have e0 : ¬ nI D ≤ nI k := nI_ge (show k < D by omega) (by omega)
    have e3 : I 43 k = nI (f (40 + k)) := hT.2.1 k (by omega)
    have tl := hb.2.2.1 (40 + k) (by omega)
    have tt := top_le (40 + k)
    rw [← c_ro_lp hb hF hT x4 x5 d n J K w (k + 1) (by omega), z42_4, ow_s]
    by_cases hg : f (40 + k) = 0
    · have l : nI (f (40 + k)) ≤ 0 := by rw [hg]; decide
      have hg' := eq_true hg
      simp only [z42_5, z42_6, z42_9, z42_12, z42_15, z42_16, z42_17, z42_20, z42_21, z42_22, z42_31, z42_32, z42_33, z42_34, z42_37, sm_cti, sm_ctr, sm_ctn, sm_nbi, Option.toList_some, Option.toList_none, List.cons_append, List.nil_append, ne_eq, reduceCtorEq, not_false_eq_true, Nat.reduceLeDiff, kc34, kc40, kc43, kc84, rf84_0, rf40_2, hF.2.1, e0, e3, l, hg', or_z, nI_1, y_inN (show k < 12 by omega) (by decide), nI_clamp (show k < 2 ^ 31 by omega), if_true, if_false, not_true_eq_false, not_false_eq_true, and_true, true_and, and_false, false_and, and_self, or_true, true_or, or_false, false_or, reduceIte, iff_self, Int32.add_zero, y_10, Classical.not_not]
    · have l : ¬ nI (f (40 + k)) ≤ 0 := nI_ge (a := 0) (by omega) (by omega)
      simp only [z42_5, z42_6, z42_9, z42_12, z42_15, z42_16, z42_17, z42_20, z42_21, z42_22, z42_25, z42_26, z42_27, z42_28, z42_32, z42_33, z42_34, z42_37, sm_cti, sm_ctr, sm_ctn, sm_nbi, Option.toList_some, Option.toList_none, List.cons_append, List.nil_append, ne_eq, reduceCtorEq, not_false_eq_true, Nat.reduceLeDiff, kc34, kc40, kc43, kc84, rf84_0, rf40_2, hF.2.1, e0, e3, l, hg, nI_1, y_inN (show k < 12 by omega) (by decide), nI_clamp (show k < 2 ^ 31 by omega), if_true, if_false, not_true_eq_false, not_false_eq_true, and_true, true_and, and_false, false_and, and_self, or_true, true_or, or_false, false_or, reduceIte, iff_self, Int32.add_zero, y_10, Classical.not_not]
def okr (a b : Nat → Nat) (O : Int32) (D s : Nat) : Bool := decide (¬ s = 0) && (decide (nI s &&& (O ^^^ (-1)) = 0) && decide (evs a s D = evs b s D))
def okg (a b : Nat → Nat) (O : Int32) (D s : Nat) : Bool := decide (¬ s = 0) && (decide (nI s &&& (O ^^^ (-1)) = 0) && grd a b D s)
theorem c_rg_lp {I : sm_I} (hb : bdf P D f a b) (hF : cFo P D f a b I) (d n : Nat) (J : sm_J) (K : Option Value → sm_H → Prop) : ∀ (w s : Nat), s + w = 2 ^ D → 0 < s →
    (sm_Ok (d + 1) 42 49 [.ref 84, .ref 40, .int (ow f D), .int (nI (rb0 (mrg (okr a b (ow f D) D) s))), .int (nI (rf0 (mrg (okr a b (ow f D) D) s))), .int (nI s)] [] (sm_SH n, I, J) K ↔ K (some (.int (nI (rb0 (mrg (okr a b (ow f D) D) (2 ^ D)))))) (sm_SH n, I, J))
  | 0, s, h, _ => by
    have hs : s = 2 ^ D := by omega
    subst hs
    have hD := hb.2.1
    rw [z42_49]
    simp only [z42_51, z42_52, z42_53, z42_56, z42_59, z42_60, z42_107, z42_108, sm_cti, sm_ctr, sm_ctn, sm_nbi, Option.toList_some, Option.toList_none, List.cons_append, List.nil_append, ne_eq, reduceCtorEq, not_false_eq_true, Nat.reduceLeDiff, kc34, kc84, rf84_0, hF.2.1, tb_p2 D (by omega), Int32.le_refl, if_true, if_false, not_true_eq_false, not_false_eq_true, and_true, true_and, and_false, false_and, and_self, or_true, true_or, or_false, false_or, reduceIte, iff_self, Int32.add_zero, y_10, Classical.not_not]
  | w + 1, s, h, hs0 => by
    have hD := hb.2.1
    have hp := p2_le hD
    have hs : s < 4096 := by omega
    have e0 : ¬ nI (2 ^ D) ≤ nI s := nI_ge (by omega) (by omega)
    have pl := pc_le s
    have pl2 : rf0 (mrg (okr a b (ow f D) D) s) ≤ 13 := by
      cases mrg (okr a b (ow f D) D) s with
      | none => exact Nat.le_refl _
      | some t =>
        have := pc_le t
        show pc t ≤ 13
        omega
    have hd0 : decide (¬ s = 0) = true := decide_eq_true (by omega)
    rw [← c_rg_lp hb hF d n J K w (s + 1) (by omega) (by omega), z42_49, mrg_s2]
    by_cases h1 : nI s &&& (ow f D ^^^ (-1)) = 0
    · by_cases h2 : pc s < rf0 (mrg (okr a b (ow f D) D) s)
      · have h2' : ¬ nI (rf0 (mrg (okr a b (ow f D) D) s)) ≤ nI (pc s) := nI_ge h2 (by omega)
        by_cases h3 : evs a s D = evs b s D
        · have hok : okr a b (ow f D) D s = true ∧ pc s < rf0 (mrg (okr a b (ow f D) D) s) := by
            refine ⟨?_, h2⟩
            unfold okr
            rw [hd0, decide_eq_true h1, decide_eq_true h3]
            rfl
          have b1 : (bi (decide (evs a s D = evs b s D)) = 0) = False := by rw [decide_eq_true h3]; decide
          rw [if_pos hok]
          dsimp only [rb0, rf0]
          simp only [z42_51, z42_52, z42_53, z42_56, z42_59, z42_60, z42_63, z42_65, z42_66, z42_67, z42_68, z42_69, z42_72, z42_74, z42_77, z42_79, z42_82, z42_83, z42_85, z42_88, z42_91, z42_93, z42_94, z42_96, z42_99, z42_101, z42_104, sm_cti, sm_ctr, sm_ctn, sm_nbi, Option.toList_some, Option.toList_none, List.cons_append, List.nil_append, ne_eq, reduceCtorEq, not_false_eq_true, Nat.reduceLeDiff, kc34, kc84, rc84, rf84_0, hF.2.1, tb_p2 D (by omega), e0, h1, h2', y_bitCount hs, c_isEven hb hF, b1, nI_1, if_true, if_false, not_true_eq_false, not_false_eq_true, and_true, true_and, and_false, false_and, and_self, or_true, true_or, or_false, false_or, reduceIte, iff_self, Int32.add_zero, y_10, Classical.not_not]
          dsimp only [rb0, rf0] at h2'
          simp only [h2', y_bitCount hs, c_isEven hb hF, b1, z42_82, z42_83, z42_85, z42_88, z42_91, z42_93, z42_94, z42_96, z42_99, z42_101, z42_104, sm_cti, sm_ctr, sm_ctn, sm_nbi, Option.toList_some, Option.toList_none, List.cons_append, List.nil_append, ne_eq, reduceCtorEq, not_false_eq_true, Nat.reduceLeDiff, rc84, nI_1, if_true, if_false, not_true_eq_false, not_false_eq_true, and_true, true_and, and_false, false_and, and_self, or_true, true_or, or_false, false_or, reduceIte, iff_self, Int32.add_zero, y_10, Classical.not_not]
        · have hok : ¬ (okr a b (ow f D) D s = true ∧ pc s < rf0 (mrg (okr a b (ow f D) D) s)) := fun z => by
            have z1 := z.1
            unfold okr at z1
            rw [decide_eq_false h3, Bool.and_false, Bool.and_false] at z1
            exact absurd z1 (by decide)
          have b1 : (bi (decide (evs a s D = evs b s D)) = 0) = True := by rw [decide_eq_false h3]; decide
          rw [if_neg hok]
          simp only [z42_51, z42_52, z42_53, z42_56, z42_59, z42_60, z42_63, z42_65, z42_66, z42_67, z42_68, z42_69, z42_72, z42_74, z42_77, z42_79, z42_82, z42_83, z42_85, z42_88, z42_101, z42_104, sm_cti, sm_ctr, sm_ctn, sm_nbi, Option.toList_some, Option.toList_none, List.cons_append, List.nil_append, ne_eq, reduceCtorEq, not_false_eq_true, Nat.reduceLeDiff, kc34, kc84, rc84, rf84_0, hF.2.1, tb_p2 D (by omega), e0, h1, h2', y_bitCount hs, c_isEven hb hF, b1, nI_1, if_true, if_false, not_true_eq_false, not_false_eq_true, and_true, true_and, and_false, false_and, and_self, or_true, true_or, or_false, false_or, reduceIte, iff_self, Int32.add_zero, y_10, Classical.not_not]
      · have h2' : nI (rf0 (mrg (okr a b (ow f D) D) s)) ≤ nI (pc s) := nI_le (by omega) (by omega)
        rw [if_neg (fun z => h2 z.2)]
        simp only [z42_51, z42_52, z42_53, z42_56, z42_59, z42_60, z42_63, z42_65, z42_66, z42_67, z42_68, z42_69, z42_72, z42_74, z42_77, z42_79, z42_101, z42_104, sm_cti, sm_ctr, sm_ctn, sm_nbi, Option.toList_some, Option.toList_none, List.cons_append, List.nil_append, ne_eq, reduceCtorEq, not_false_eq_true, Nat.reduceLeDiff, kc34, kc84, rf84_0, hF.2.1, tb_p2 D (by omega), e0, h1, h2', y_bitCount hs, nI_1, if_true, if_false, not_true_eq_false, not_false_eq_true, and_true, true_and, and_false, false_and, and_self, or_true, true_or, or_false, false_or, reduceIte, iff_self, Int32.add_zero, y_10, Classical.not_not]
    · have hok : ¬ (okr a b (ow f D) D s = true ∧ pc s < rf0 (mrg (okr a b (ow f D) D) s)) := fun z => by
        have z1 := z.1
        unfold okr at z1
        rw [decide_eq_false h1, Bool.false_and, Bool.and_false] at z1
        exact absurd z1 (by decide)
      rw [if_neg hok]
      simp only [z42_51, z42_52, z42_53, z42_56, z42_59, z42_60, z42_63, z42_65, z42_66, z42_67, z42_68, z42_69, z42_101, z42_104, sm_cti, sm_ctr, sm_ctn, sm_nbi, Option.toList_some, Option.toList_none, List.cons_append, List.nil_append, ne_eq, reduceCtorEq, not_false_eq_true, Nat.reduceLeDiff, kc34, kc84, rf84_0, hF.2.1, tb_p2 D (by omega), e0, h1, nI_1, if_true, if_false, not_true_eq_false, not_false_eq_true, and_true, true_and, and_false, false_and, and_self, or_true, true_or, or_false, false_or, reduceIte, iff_self, Int32.add_zero, y_10, Classical.not_not]
theorem okr_1 (O : Int32) : mrg (okr a b O D) 1 = none := by
  rw [mrg_s]
  rfl
theorem okg_1 (O : Int32) : mrg (okg a b O D) 1 = none := by
  rw [mrg_s]
  rfl
theorem c_ring {I : sm_I} (hb : bdf P D f a b) (hF : cFo P D f a b I) (hT : cTa 40 f I) (d n : Nat) (J : sm_J) (K : Option Value → sm_H → Prop) :
    sm_Ok (d + 1) 42 0 [.ref 84, .ref 40, .null, .null, .null, .null] [] (sm_SH n, I, J) K ↔ K (some (.int (nI (rb0 (mrg (okr a b (ow f D) D) (2 ^ D)))))) (sm_SH n, I, J) := by
  have hp := p2_pos D
  rw [← c_rg_lp hb hF d n J K (2 ^ D - 1) 1 (by omega) (by omega), okr_1, z42_0]
  simp only [z42_1, z42_2, z42_3, sm_cti, sm_ctr, sm_ctn, sm_nbi, Option.toList_some, Option.toList_none, List.cons_append, List.nil_append, ne_eq, reduceCtorEq, not_false_eq_true, Nat.reduceLeDiff, if_true, if_false, not_true_eq_false, not_false_eq_true, and_true, true_and, and_false, false_and, and_self, or_true, true_or, or_false, false_or, reduceIte, iff_self, Int32.add_zero, y_10, Classical.not_not]
  refine Iff.trans (c_ro_lp hb hF hT .null .null (d + 1) n J K D 0 (by omega)) ?_
  simp only [z42_40, z42_41, z42_42, z42_44, z42_46, z42_47, sm_cti, sm_ctr, sm_ctn, sm_nbi, Option.toList_some, Option.toList_none, List.cons_append, List.nil_append, ne_eq, reduceCtorEq, not_false_eq_true, Nat.reduceLeDiff, if_true, if_false, not_true_eq_false, not_false_eq_true, and_true, true_and, and_false, false_and, and_self, or_true, true_or, or_false, false_or, reduceIte, iff_self, Int32.add_zero, y_10, Classical.not_not]
  exact Iff.rfl
theorem c_lo_lp {I : sm_I} (hb : bdf P D f a b) (hF : cFo P D f a b I) (hT : cTa 40 f I) (s : Nat) (d n : Nat) (J : sm_J) (K : Option Value → sm_H → Prop) : ∀ (w k : Nat), k + w = D →
    (sm_Ok d 44 7 [.ref 84, .ref 40, .int (nI s), .int (nI (lsv f 999 s k)), .int (nI k)] [] (sm_SH n, I, J) K ↔ K (some (.int (nI (lsv f 999 s D)))) (sm_SH n, I, J))
  | 0, k, h => by
    have hk : k = D := by omega
    subst hk
    rw [z44_7]
    simp only [z44_3, z44_4, z44_5, z44_9, z44_10, z44_13, z44_16, z44_19, z44_20, z44_22, z44_23, z44_24, z44_25, z44_28, z44_29, z44_30, z44_33, z44_35, z44_36, z44_39, z44_40, z44_43, z44_46, z44_47, sm_cti, sm_ctr, sm_ctn, sm_nbi, Option.toList_some, Option.toList_none, List.cons_append, List.nil_append, ne_eq, reduceCtorEq, not_false_eq_true, Nat.reduceLeDiff, kc34, kc84, rf84_0, hF.2.1, Int32.le_refl, if_true, if_false, not_true_eq_false, not_false_eq_true, and_true, true_and, and_false, false_and, and_self, or_true, true_or, or_false, false_or, reduceIte, iff_self, Int32.add_zero, y_10, Classical.not_not]
  | w + 1, k, h => by
    have hD := hb.2.1
    have e0 : ¬ nI D ≤ nI k := nI_ge (show k < D by omega) (by omega)
    have e3 : I 43 k = nI (f (40 + k)) := hT.2.1 k (by omega)
    have tl := hb.2.2.1 (40 + k) (by omega)
    have tt := top_le (40 + k)
    have ll := lsv_le (f := f) (z := 999) (s := s) k
    have eb := tb_nIs (s := s) (show k < 32 by omega)
    rw [← c_lo_lp hb hF hT s d n J K w (k + 1) (by omega), z44_7, lsv_s]
    cases hbk : s.testBit k with
    | false =>
      rw [if_neg (by decide)]
      simp only [z44_3, z44_4, z44_5, z44_9, z44_10, z44_13, z44_16, z44_19, z44_20, z44_22, z44_23, z44_24, z44_25, z44_28, z44_29, z44_30, z44_33, z44_35, z44_36, z44_39, z44_40, z44_43, z44_46, z44_47, sm_cti, sm_ctr, sm_ctn, sm_nbi, Option.toList_some, Option.toList_none, List.cons_append, List.nil_append, ne_eq, reduceCtorEq, not_false_eq_true, Nat.reduceLeDiff, kc34, kc84, rf84_0, hF.2.1, e0, tb_in0 _ (show k < 32 by omega), eb, hbk, nI_1, if_true, if_false, not_true_eq_false, not_false_eq_true, and_true, true_and, and_false, false_and, and_self, or_true, true_or, or_false, false_or, reduceIte, iff_self, Int32.add_zero, y_10, Classical.not_not]
    | true =>
      have tf : (true = false) = False := by decide
      rw [if_pos rfl, ← nI_min (show lsv f 999 s k < 2 ^ 31 by omega) (show f (40 + k) < 2 ^ 31 by omega)]
      simp only [z44_3, z44_4, z44_5, z44_9, z44_10, z44_13, z44_16, z44_19, z44_20, z44_22, z44_23, z44_24, z44_25, z44_28, z44_29, z44_30, z44_33, z44_35, z44_36, z44_39, z44_40, z44_43, z44_46, z44_47, sm_cti, sm_ctr, sm_ctn, sm_nbi, Option.toList_some, Option.toList_none, List.cons_append, List.nil_append, ne_eq, reduceCtorEq, not_false_eq_true, Nat.reduceLeDiff, kc34, kc40, kc43, kc84, rf84_0, rf40_2, hF.2.1, e0, tb_in0 _ (show k < 32 by omega), eb, hbk, tf, e3, nI_1, y_inN (show k < 12 by omega) (by decide), nI_clamp (show k < 2 ^ 31 by omega), if_true, if_false, not_true_eq_false, not_false_eq_true, and_true, true_and, and_false, false_and, and_self, or_true, true_or, or_false, false_or, reduceIte, iff_self, Int32.add_zero, y_10, Classical.not_not]
theorem c_leastOf {I : sm_I} (hb : bdf P D f a b) (hF : cFo P D f a b I) (hT : cTa 40 f I) (s : Nat) (d n : Nat) (J : sm_J) (K : Option Value → sm_H → Prop) :
    sm_Ok d 44 0 [.ref 84, .ref 40, .int (nI s), .null, .null] [] (sm_SH n, I, J) K ↔ K (some (.int (nI (lsv f 999 s D)))) (sm_SH n, I, J) := by
  rw [← c_lo_lp hb hF hT s d n J K D 0 (by omega), z44_0]
  simp only [z44_3, z44_4, z44_5, sm_cti, sm_ctr, sm_ctn, sm_nbi, Option.toList_some, Option.toList_none, List.cons_append, List.nil_append, ne_eq, reduceCtorEq, not_false_eq_true, Nat.reduceLeDiff, if_true, if_false, not_true_eq_false, not_false_eq_true, and_true, true_and, and_false, false_and, and_self, or_true, true_or, or_false, false_or, reduceIte, iff_self, Int32.add_zero, y_10, Classical.not_not]
  exact Iff.rfl
theorem m_ml_lp {I : sm_I} (hb : bdf P D f a b) (hM : mFo P D f a b I) (s : Nat) (x1 : Int32) (d n : Nat) (J : sm_J) (K : Option Value → sm_H → Prop) : ∀ (w k : Nat), k + w = D →
    (sm_Ok (d + 1) 196 89 [.ref 103, .int x1, .int (nI s), .int (nI (lsv f 1000000 s k)), .int (nI k)] [] (sm_SH n, I, J) K ↔ sm_Ok (d + 1) 196 132 [.ref 103, .int x1, .int (nI s), .int (nI (lsv f 1000000 s D)), .int (nI D)] [] (sm_SH n, I, J) K)
  | 0, k, h => by
    have hk : k = D := by omega
    subst hk
    rw [z196_89]
    simp only [z196_91, z196_92, z196_95, sm_cti, sm_ctr, sm_ctn, sm_nbi, Option.toList_some, Option.toList_none, List.cons_append, List.nil_append, ne_eq, reduceCtorEq, not_false_eq_true, Nat.reduceLeDiff, kc103, hM.2.1, Int32.le_refl, if_true, if_false, not_true_eq_false, not_false_eq_true, and_true, true_and, and_false, false_and, and_self, or_true, true_or, or_false, false_or, reduceIte, iff_self, Int32.add_zero, y_10, Classical.not_not]
  | w + 1, k, h => by
    have hD := hb.2.1
    have e0 : ¬ nI D ≤ nI k := nI_ge (show k < D by omega) (by omega)
    have e3 := hM.2.2.1 (40 + k) (by omega)
    have a40 : (40 : Int32) + nI k = nI (40 + k) := nI_add 40 k
    have tl := hb.2.2.1 (40 + k) (by omega)
    have tt := top_le (40 + k)
    have ll := lsv_le (f := f) (z := 1000000) (s := s) k
    have eb := tb_nIs (s := s) (show k < 32 by omega)
    rw [← m_ml_lp hb hM s x1 d n J K w (k + 1) (by omega), z196_89, lsv_s]
    cases hbk : s.testBit k with
    | false =>
      rw [if_neg (by decide)]
      have tf : (false = true) = False := by decide
      simp only [z196_91, z196_92, z196_95, z196_98, z196_99, z196_101, z196_104, z196_124, z196_125, z196_126, z196_129, sm_cti, sm_ctr, sm_ctn, sm_nbi, Option.toList_some, Option.toList_none, List.cons_append, List.nil_append, ne_eq, reduceCtorEq, not_false_eq_true, Nat.reduceLeDiff, kc103, hM.2.1, e0, m_isInX _ (show k < 32 by omega), eb, hbk, tf, nI_1, if_true, if_false, not_true_eq_false, not_false_eq_true, and_true, true_and, and_false, false_and, and_self, or_true, true_or, or_false, false_or, reduceIte, iff_self, Int32.add_zero, y_10, Classical.not_not]
    | true =>
      rw [if_pos rfl, ← nI_least (show lsv f 1000000 s k < 2 ^ 31 by omega) (show f (40 + k) < 2 ^ 31 by omega)]
      simp only [z196_91, z196_92, z196_95, z196_98, z196_99, z196_101, z196_104, z196_107, z196_108, z196_109, z196_112, z196_114, z196_116, z196_117, z196_118, z196_121, z196_125, z196_126, z196_129, sm_cti, sm_ctr, sm_ctn, sm_nbi, Option.toList_some, Option.toList_none, List.cons_append, List.nil_append, ne_eq, reduceCtorEq, not_false_eq_true, Nat.reduceLeDiff, kc103, kc104, rf103_0, hM.2.1, e0, m_isInX _ (show k < 32 by omega), eb, hbk, e3, a40, m_least, nI_1, y_inN (show 40 + k < 54 by omega) (by decide), nI_clamp (show 40 + k < 2 ^ 31 by omega), if_true, if_false, not_true_eq_false, not_false_eq_true, and_true, true_and, and_false, false_and, and_self, or_true, true_or, or_false, false_or, reduceIte, iff_self, Int32.add_zero, y_10, Classical.not_not]
theorem m_fi_lp {I : sm_I} (s : Nat) (x3 x4 x5 x6 x7 : Value) (d n : Nat) (J : sm_J) (K : Option Value → sm_H → Prop) : ∀ (w i : Nat), i + w ≤ 12 → (∃ j, i ≤ j ∧ j < i + w ∧ s.testBit j = true) →
    (sm_Ok (d + 1) 194 2 [.ref 103, .int (nI s), .int (nI i), x3, x4, x5, x6, x7] [] (sm_SH n, I, J) K ↔ sm_Ok (d + 1) 194 16 [.ref 103, .int (nI s), .int (nI (fst1 s w i)), x3, x4, x5, x6, x7] [] (sm_SH n, I, J) K)
  | 0, i, _, ⟨j, h1, h2, _⟩ => by omega
  | w + 1, i, hi, ⟨j, h1, h2, h3⟩ => by
    have eb := tb_nIs (s := s) (show i < 32 by omega)
    rw [z194_2]
    cases hb : s.testBit i with
    | true =>
      have e : fst1 s (w + 1) i = i := by
        show (if s.testBit i = true then i else fst1 s w (i + 1)) = i
        rw [if_pos hb]
      rw [e]
      simp only [z194_3, z194_4, z194_7, sm_cti, sm_ctr, sm_ctn, sm_nbi, Option.toList_some, Option.toList_none, List.cons_append, List.nil_append, ne_eq, reduceCtorEq, not_false_eq_true, Nat.reduceLeDiff, m_isInX _ (show i < 32 by omega), eb, hb, if_true, if_false, not_true_eq_false, not_false_eq_true, and_true, true_and, and_false, false_and, and_self, or_true, true_or, or_false, false_or, reduceIte, iff_self, Int32.add_zero, y_10, Classical.not_not]
    | false =>
      have e : fst1 s (w + 1) i = fst1 s w (i + 1) := by
        show (if s.testBit i = true then i else fst1 s w (i + 1)) = _
        rw [hb, if_neg (by decide)]
      have hij : ¬ i = j := fun z => by
        rw [z, h3] at hb
        exact absurd hb (by decide)
      have tf : (false = true) = False := by decide
      rw [e, ← m_fi_lp s x3 x4 x5 x6 x7 d n J K w (i + 1) (by omega) ⟨j, by omega, by omega, h3⟩]
      simp only [z194_3, z194_4, z194_7, z194_10, z194_13, sm_cti, sm_ctr, sm_ctn, sm_nbi, Option.toList_some, Option.toList_none, List.cons_append, List.nil_append, ne_eq, reduceCtorEq, not_false_eq_true, Nat.reduceLeDiff, m_isInX _ (show i < 32 by omega), eb, hb, tf, nI_1, if_true, if_false, not_true_eq_false, not_false_eq_true, and_true, true_and, and_false, false_and, and_self, or_true, true_or, or_false, false_or, reduceIte, iff_self, Int32.add_zero, y_10, Classical.not_not]
theorem m_nx_lp {I : sm_I} (hb : bdf P D f a b) (hM : mFo P D f a b I) {q : Nat} (hq : q < D) (L : Nat) (x1 x2 x5 : Int32) (d n : Nat) (J : sm_J) (K : Option Value → sm_H → Prop) : ∀ (w k : Nat), k + w = D →
    (sm_Ok (d + 1) 194 87 [.ref 103, .int x1, .int x2, .int (nI q), .int (nI L), .int x5, .int (ni1 (nxt a L (b q) k)), .int (nI k)] [] (sm_SH n, I, J) K ↔ sm_Ok (d + 1) 194 137 [.ref 103, .int x1, .int x2, .int (nI q), .int (nI L), .int x5, .int (ni1 (nxt a L (b q) D)), .int (nI D)] [] (sm_SH n, I, J) K)
  | 0, k, h => by
    have hk : k = D := by omega
    subst hk
    rw [z194_87]
    simp only [z194_89, z194_90, z194_93, sm_cti, sm_ctr, sm_ctn, sm_nbi, Option.toList_some, Option.toList_none, List.cons_append, List.nil_append, ne_eq, reduceCtorEq, not_false_eq_true, Nat.reduceLeDiff, kc103, hM.2.1, Int32.le_refl, if_true, if_false, not_true_eq_false, not_false_eq_true, and_true, true_and, and_false, false_and, and_self, or_true, true_or, or_false, false_or, reduceIte, iff_self, Int32.add_zero, y_10, Classical.not_not]
  | w + 1, k, h => by
    have hD := hb.2.1
    have e0 : ¬ nI D ≤ nI k := nI_ge (show k < D by omega) (by omega)
    have eb := tb_nIs (s := L) (show k < 32 by omega)
    obtain ⟨E1, E2⟩ := hM.2.2.2 k (by omega)
    obtain ⟨Q1, Q2⟩ := hM.2.2.2 q hq
    obtain ⟨a8, b8⟩ := bd_ab hb k (by omega)
    obtain ⟨qa8, qb8⟩ := bd_ab hb q hq
    have l : (nI (a k) = nI (b q)) = (a k = b q) := propext (nI_eq (by omega) (by omega))
    rw [← m_nx_lp hb hM hq L x1 x2 x5 d n J K w (k + 1) (by omega), z194_87, nxt_s]
    cases hbk : L.testBit k with
    | false =>
      rw [if_neg (fun z => absurd z.1 (by decide))]
      have tf : (false = true) = False := by decide
      simp only [z194_89, z194_90, z194_93, z194_96, z194_98, z194_100, z194_103, z194_127, z194_129, z194_131, z194_134, sm_cti, sm_ctr, sm_ctn, sm_nbi, Option.toList_some, Option.toList_none, List.cons_append, List.nil_append, ne_eq, reduceCtorEq, not_false_eq_true, Nat.reduceLeDiff, kc103, hM.2.1, e0, m_isInX _ (show k < 32 by omega), eb, hbk, tf, nI_1, if_true, if_false, not_true_eq_false, not_false_eq_true, and_true, true_and, and_false, false_and, and_self, or_true, true_or, or_false, false_or, reduceIte, iff_self, Int32.add_zero, y_10, Classical.not_not]
    | true =>
      by_cases h1 : a k = b q
      · have h1' := eq_true h1
        rw [if_pos ⟨rfl, h1⟩]
        dsimp only [ni1]
        simp only [z194_89, z194_90, z194_93, z194_96, z194_98, z194_100, z194_103, z194_106, z194_107, z194_110, z194_112, z194_113, z194_114, z194_117, z194_118, z194_119, z194_122, z194_124, z194_129, z194_131, z194_134, sm_cti, sm_ctr, sm_ctn, sm_nbi, Option.toList_some, Option.toList_none, List.cons_append, List.nil_append, ne_eq, reduceCtorEq, not_false_eq_true, Nat.reduceLeDiff, kc103, kc108, kc109, rf103_8, rf103_9, hM.2.1, e0, m_isInX _ (show k < 32 by omega), eb, hbk, E1, Q2, l, h1', nI_1, y_inN (show k < 12 by omega) (by decide), nI_clamp (show k < 2 ^ 31 by omega), y_inN (show q < 12 by omega) (by decide), nI_clamp (show q < 2 ^ 31 by omega), if_true, if_false, not_true_eq_false, not_false_eq_true, and_true, true_and, and_false, false_and, and_self, or_true, true_or, or_false, false_or, reduceIte, iff_self, Int32.add_zero, y_10, Classical.not_not]
      · rw [if_neg (fun z => h1 z.2)]
        simp only [z194_89, z194_90, z194_93, z194_96, z194_98, z194_100, z194_103, z194_106, z194_107, z194_110, z194_112, z194_113, z194_114, z194_117, z194_118, z194_119, z194_127, z194_129, z194_131, z194_134, sm_cti, sm_ctr, sm_ctn, sm_nbi, Option.toList_some, Option.toList_none, List.cons_append, List.nil_append, ne_eq, reduceCtorEq, not_false_eq_true, Nat.reduceLeDiff, kc103, kc108, kc109, rf103_8, rf103_9, hM.2.1, e0, m_isInX _ (show k < 32 by omega), eb, hbk, E1, Q2, l, h1, nI_1, y_inN (show k < 12 by omega) (by decide), nI_clamp (show k < 2 ^ 31 by omega), y_inN (show q < 12 by omega) (by decide), nI_clamp (show q < 2 ^ 31 by omega), if_true, if_false, not_true_eq_false, not_false_eq_true, and_true, true_and, and_false, false_and, and_self, or_true, true_or, or_false, false_or, reduceIte, iff_self, Int32.add_zero, y_10, Classical.not_not]
theorem m_wk_lp {I : sm_I} (hb : bdf P D f a b) (hM : mFo P D f a b I) {fi : Nat} (hfi : fi < D) (x1 : Int32) (d n : Nat) (J : sm_J) (K : Option Value → sm_H → Prop) : ∀ (w q L S : Nat), pc L < w → q < D → L < 4096 → ∀ x6 x7 : Value, x6.category = 1 → x7.category = 1 →
    K (some (.int (bi (wlk a b D (a fi) w q L S)))) (sm_SH n, I, J) →
    sm_Ok (d + 1) 194 37 [.ref 103, .int x1, .int (nI fi), .int (nI q), .int (nI L), .int (nI S), x6, x7] [] (sm_SH n, I, J) K
  | 0, q, L, S, h, _, _, _, _, _, _, _ => absurd h (Nat.not_lt_zero _)
  | w + 1, q, L, S, h, hq, hL, x6, x7, k6, k7, hK => by
    have hD := hb.2.1
    obtain ⟨Q1, Q2⟩ := hM.2.2.2 q hq
    obtain ⟨F1, F2⟩ := hM.2.2.2 fi hfi
    obtain ⟨qa8, qb8⟩ := bd_ab hb q hq
    obtain ⟨fa8, fb8⟩ := bd_ab hb fi hfi
    have l : (nI (b q) = nI (a fi)) = (b q = a fi) := propext (nI_eq (by omega) (by omega))
    have eb := tb_nIs (s := S) (show b q < 32 by omega)
    rw [wlk_s] at hK
    rw [z194_37]
    by_cases h1 : b q = a fi
    · have h1' := eq_true h1
      rw [if_pos h1] at hK
      have l0 : (nI L = 0) = (L = 0) := propext (nI_eq (b := 0) (by omega) (by decide))
      by_cases h2 : L = 0
      · have h2' := eq_true h2
        rw [decide_eq_true h2] at hK
        simp only [z194_38, z194_41, z194_42, z194_43, z194_44, z194_47, z194_48, z194_49, z194_161, z194_163, z194_166, z194_167, z194_171_0, z194_171_1, sm_cti, sm_ctr, sm_ctn, sm_nbi, Option.toList_some, Option.toList_none, List.cons_append, List.nil_append, ne_eq, reduceCtorEq, not_false_eq_true, Nat.reduceLeDiff, kc103, kc108, kc109, rf103_8, rf103_9, Q2, F1, l, h1', l0, h2', y_inN (show q < 12 by omega) (by decide), nI_clamp (show q < 2 ^ 31 by omega), y_inN (show fi < 12 by omega) (by decide), nI_clamp (show fi < 2 ^ 31 by omega), if_true, if_false, not_true_eq_false, not_false_eq_true, and_true, true_and, and_false, false_and, and_self, or_true, true_or, or_false, false_or, reduceIte, iff_self, Int32.add_zero, y_10, Classical.not_not]
        exact hK
      · rw [decide_eq_false h2] at hK
        simp only [z194_38, z194_41, z194_42, z194_43, z194_44, z194_47, z194_48, z194_49, z194_161, z194_163, z194_170, z194_171_0, z194_171_1, sm_cti, sm_ctr, sm_ctn, sm_nbi, Option.toList_some, Option.toList_none, List.cons_append, List.nil_append, ne_eq, reduceCtorEq, not_false_eq_true, Nat.reduceLeDiff, kc103, kc108, kc109, rf103_8, rf103_9, Q2, F1, l, h1', l0, h2, y_inN (show q < 12 by omega) (by decide), nI_clamp (show q < 2 ^ 31 by omega), y_inN (show fi < 12 by omega) (by decide), nI_clamp (show fi < 2 ^ 31 by omega), if_true, if_false, not_true_eq_false, not_false_eq_true, and_true, true_and, and_false, false_and, and_self, or_true, true_or, or_false, false_or, reduceIte, iff_self, Int32.add_zero, y_10, Classical.not_not]
        exact hK
    · rw [if_neg h1] at hK
      cases h2 : S.testBit (b q) with
      | true =>
        rw [h2, if_pos rfl] at hK
        simp only [z194_38, z194_41, z194_42, z194_43, z194_44, z194_47, z194_48, z194_49, z194_52, z194_54, z194_55, z194_58, z194_59, z194_60, z194_63, z194_66, z194_67_0, z194_67_1, sm_cti, sm_ctr, sm_ctn, sm_nbi, Option.toList_some, Option.toList_none, List.cons_append, List.nil_append, ne_eq, reduceCtorEq, not_false_eq_true, Nat.reduceLeDiff, kc103, kc108, kc109, rf103_8, rf103_9, Q2, F1, l, h1, m_isInX _ (show b q < 32 by omega), eb, h2, y_inN (show q < 12 by omega) (by decide), nI_clamp (show q < 2 ^ 31 by omega), y_inN (show fi < 12 by omega) (by decide), nI_clamp (show fi < 2 ^ 31 by omega), if_true, if_false, not_true_eq_false, not_false_eq_true, and_true, true_and, and_false, false_and, and_self, or_true, true_or, or_false, false_or, reduceIte, iff_self, Int32.add_zero, y_10, Classical.not_not]
        exact hK
      | false =>
        rw [h2, if_neg (by decide)] at hK
        have tf : (false = true) = False := by decide
        have n0 : (0 : Int32) = nI 0 := rfl
        simp only [z194_38, z194_41, z194_42, z194_43, z194_44, z194_47, z194_48, z194_49, z194_52, z194_54, z194_55, z194_58, z194_59, z194_60, z194_63, z194_68, z194_70, z194_71, z194_72, z194_75, z194_76, z194_77, z194_78, z194_79, z194_81, z194_82, z194_84, z194_85, sm_cti, sm_ctr, sm_ctn, sm_nbi, Option.toList_some, Option.toList_none, List.cons_append, List.nil_append, ne_eq, reduceCtorEq, not_false_eq_true, Nat.reduceLeDiff, kc103, kc108, kc109, rf103_8, rf103_9, Q2, F1, l, h1, m_isInX _ (show b q < 32 by omega), eb, h2, tf, tb_p2 (b q) (by omega), nI_or, k6, k7, y_inN (show q < 12 by omega) (by decide), nI_clamp (show q < 2 ^ 31 by omega), y_inN (show fi < 12 by omega) (by decide), nI_clamp (show fi < 2 ^ 31 by omega), if_true, if_false, not_true_eq_false, not_false_eq_true, and_true, true_and, and_false, false_and, and_self, or_true, true_or, or_false, false_or, reduceIte, iff_self, Int32.add_zero, y_10, Classical.not_not]
        refine (m_nx_lp hb hM hq L x1 (nI fi) (nI (S ||| 2 ^ b q)) d n J K D 0 (by omega)).mpr ?_
        cases hn : nxt a L (b q) D with
        | none =>
          rw [hn] at hK
          dsimp only at hK
          dsimp only [ni1]
          have l3 : ¬ (0 : Int32) ≤ -1 := by decide
          simp only [z194_137, z194_139, z194_142, z194_143_0, z194_143_1, sm_cti, sm_ctr, sm_ctn, sm_nbi, Option.toList_some, Option.toList_none, List.cons_append, List.nil_append, ne_eq, reduceCtorEq, not_false_eq_true, Nat.reduceLeDiff, l3, if_true, if_false, not_true_eq_false, not_false_eq_true, and_true, true_and, and_false, false_and, and_self, or_true, true_or, or_false, false_or, reduceIte, iff_self, Int32.add_zero, y_10, Classical.not_not]
          exact hK
        | some k =>
          rw [hn] at hK
          dsimp only at hK
          obtain ⟨k1, k2, k3⟩ := nxt_some hn
          have hpd := pcn_dec (show k < 12 by omega) k2
          have hlt := nx_lt k2
          have l3 : (0 : Int32) ≤ nI k := nI_pos' (by omega)
          dsimp only [ni1]
          simp only [z194_137, z194_139, z194_144, z194_146, z194_147, z194_149, z194_150, z194_151, z194_152, z194_153, z194_155, z194_157, z194_158, sm_cti, sm_ctr, sm_ctn, sm_nbi, Option.toList_some, Option.toList_none, List.cons_append, List.nil_append, ne_eq, reduceCtorEq, not_false_eq_true, Nat.reduceLeDiff, l3, tb_p2 k (by omega), nI_clr (show k < 12 by omega) k2, if_true, if_false, not_true_eq_false, not_false_eq_true, and_true, true_and, and_false, false_and, and_self, or_true, true_or, or_false, false_or, reduceIte, iff_self, Int32.add_zero, y_10, Classical.not_not]
          exact m_wk_lp hb hM hfi x1 d n J K w k (L ^^^ 2 ^ k) (S ||| 2 ^ b q) (by omega) k1 (by omega) _ _ rfl rfl hK
theorem m_goesRound {I : sm_I} (hb : bdf P D f a b) (hM : mFo P D f a b I) {s : Nat} (hs : s < 2 ^ D) (h0 : ¬ s = 0) (d n : Nat) (J : sm_J) (K : Option Value → sm_H → Prop) (hK : K (some (.int (bi (grd a b D s)))) (sm_SH n, I, J)) :
    sm_Ok (d + 1) 194 0 [.ref 103, .int (nI s), .null, .null, .null, .null, .null, .null] [] (sm_SH n, I, J) K := by
  have hD := hb.2.1
  have hp := p2_le hD
  obtain ⟨p, hp2, hbp⟩ := nat_nz hs h0
  obtain ⟨f1, f2, f3⟩ := fst1_ok (s := s) (n := D) (i := 0) ⟨p, Nat.zero_le _, by omega, hbp⟩
  have hlt := nx_lt f1
  obtain ⟨F1, F2⟩ := hM.2.2.2 (fst1 s D 0) (by omega)
  obtain ⟨fa8, fb8⟩ := bd_ab hb (fst1 s D 0) (by omega)
  have hpc := pc_le (s ^^^ 2 ^ fst1 s D 0)
  unfold grd at hK
  rw [z194_0]
  simp only [z194_1, sm_cti, sm_ctr, sm_ctn, sm_nbi, Option.toList_some, Option.toList_none, List.cons_append, List.nil_append, ne_eq, reduceCtorEq, not_false_eq_true, Nat.reduceLeDiff, if_true, if_false, not_true_eq_false, not_false_eq_true, and_true, true_and, and_false, false_and, and_self, or_true, true_or, or_false, false_or, reduceIte, iff_self, Int32.add_zero, y_10, Classical.not_not]
  refine (m_fi_lp s .null .null .null .null .null d n J K D 0 (by omega) ⟨p, Nat.zero_le _, by omega, hbp⟩).mpr ?_
  generalize fst1 s D 0 = fi at *
  simp only [z194_16, z194_17, z194_18, z194_19, z194_20, z194_21, z194_22, z194_23, z194_24, z194_25, z194_27, z194_28, z194_29, z194_32, z194_33, z194_34, z194_35, sm_cti, sm_ctr, sm_ctn, sm_nbi, Option.toList_some, Option.toList_none, List.cons_append, List.nil_append, ne_eq, reduceCtorEq, not_false_eq_true, Nat.reduceLeDiff, kc103, kc108, rf103_8, F1, tb_p2 fi (by omega), tb_p2 (a fi) (by omega), nI_clr (show fi < 12 by omega) f1, y_inN (show fi < 12 by omega) (by decide), nI_clamp (show fi < 2 ^ 31 by omega), if_true, if_false, not_true_eq_false, not_false_eq_true, and_true, true_and, and_false, false_and, and_self, or_true, true_or, or_false, false_or, reduceIte, iff_self, Int32.add_zero, y_10, Classical.not_not]
  exact m_wk_lp hb hM (by omega) _ d n J K 13 fi _ _ (by omega) (by omega) (by omega) .null .null rfl rfl hK
theorem m_rd_lp {I : sm_I} (hb : bdf P D f a b) (hM : mFo P D f a b I) (x1 : Int32) (d n : Nat) (J : sm_J) (K : Option Value → sm_H → Prop) (hK : sm_Ok (d + 2) 196 71 [.ref 103, .int x1, .int (ri (mrg (okg a b (ow f D) D) (2 ^ D))), .int (nI (2 ^ D)), .null] [] (sm_SH n, I, J) K) : ∀ (w s : Nat), s + w = 2 ^ D → 0 < s →
    sm_Ok (d + 2) 196 19 [.ref 103, .int x1, .int (ri (mrg (okg a b (ow f D) D) s)), .int (nI s), .null] [] (sm_SH n, I, J) K
  | 0, s, h, _ => by
    have hs : s = 2 ^ D := by omega
    subst hs
    have hD := hb.2.1
    rw [z196_19]
    simp only [z196_20, z196_21, z196_22, z196_25, z196_26, sm_cti, sm_ctr, sm_ctn, sm_nbi, Option.toList_some, Option.toList_none, List.cons_append, List.nil_append, ne_eq, reduceCtorEq, not_false_eq_true, Nat.reduceLeDiff, kc103, hM.2.1, tb_p2 D (by omega), Int32.le_refl, if_true, if_false, not_true_eq_false, not_false_eq_true, and_true, true_and, and_false, false_and, and_self, or_true, true_or, or_false, false_or, reduceIte, iff_self, Int32.add_zero, y_10, Classical.not_not]
    exact hK
  | w + 1, s, h, hs0 => by
    have hD := hb.2.1
    have hp := p2_le hD
    have e0 : ¬ nI (2 ^ D) ≤ nI s := nI_ge (by omega) (by omega)
    have pl := pc_le s
    have hd0 : decide (¬ s = 0) = true := decide_eq_true (by omega)
    have b1 : (bi true = 0) = False := by decide
    have b2 : (bi false = 0) = True := by decide
    have hrc := m_rd_lp hb hM x1 d n J K hK w (s + 1) (by omega) (by omega)
    rw [mrg_s] at hrc
    -- asked whether it goes round, and what then
    have ask : ∀ y2 : Int32, sm_Ok (d + 2) 196 19 [.ref 103, .int x1, .int (if grd a b D s = true then nI s else y2), .int (nI (s + 1)), .null] [] (sm_SH n, I, J) K → sm_Ok (d + 2) 196 55 [.ref 103, .int x1, .int y2, .int (nI s), .null] [] (sm_SH n, I, J) K := fun y2 hy => by
      simp only [z196_55, z196_56, z196_57, sm_cti, sm_ctr, sm_ctn, sm_nbi, Option.toList_some, Option.toList_none, List.cons_append, List.nil_append, ne_eq, reduceCtorEq, not_false_eq_true, Nat.reduceLeDiff, rc103, if_true, if_false, not_true_eq_false, not_false_eq_true, and_true, true_and, and_false, false_and, and_self, or_true, true_or, or_false, false_or, reduceIte, iff_self, Int32.add_zero, y_10, Classical.not_not]
      refine m_goesRound hb hM (show s < 2 ^ D by omega) (by omega) d n J _ ?_
      cases hg : grd a b D s with
      | true =>
        rw [hg, if_pos rfl] at hy
        simp only [z196_60, z196_63, z196_64, z196_65, z196_68, sm_cti, sm_ctr, sm_ctn, sm_nbi, Option.toList_some, Option.toList_none, List.cons_append, List.nil_append, ne_eq, reduceCtorEq, not_false_eq_true, Nat.reduceLeDiff, b1, nI_1, if_true, if_false, not_true_eq_false, not_false_eq_true, and_true, true_and, and_false, false_and, and_self, or_true, true_or, or_false, false_or, reduceIte, iff_self, Int32.add_zero, y_10, Classical.not_not]
        exact hy
      | false =>
        rw [hg, if_neg (by decide)] at hy
        simp only [z196_60, z196_65, z196_68, sm_cti, sm_ctr, sm_ctn, sm_nbi, Option.toList_some, Option.toList_none, List.cons_append, List.nil_append, ne_eq, reduceCtorEq, not_false_eq_true, Nat.reduceLeDiff, b2, nI_1, if_true, if_false, not_true_eq_false, not_false_eq_true, and_true, true_and, and_false, false_and, and_self, or_true, true_or, or_false, false_or, reduceIte, iff_self, Int32.add_zero, y_10, Classical.not_not]
        exact hy
    rw [z196_19]
    by_cases h1 : nI s &&& (ow f D ^^^ (-1)) = 0
    · have hok : okg a b (ow f D) D s = grd a b D s := by
        unfold okg
        rw [hd0, decide_eq_true h1]
        rfl
      rw [hok] at hrc
      cases hm : mrg (okg a b (ow f D) D) s with
      | none =>
        rw [hm] at hrc
        dsimp only at hrc
        dsimp only [ri]
        have l : (-2 : Int32) < 0 := by decide
        simp only [z196_20, z196_21, z196_22, z196_25, z196_26, z196_29, z196_30, z196_31, z196_34, z196_35, z196_36, z196_37, z196_40, z196_41, sm_cti, sm_ctr, sm_ctn, sm_nbi, Option.toList_some, Option.toList_none, List.cons_append, List.nil_append, ne_eq, reduceCtorEq, not_false_eq_true, Nat.reduceLeDiff, kc103, rc103, hM.2.1, tb_p2 D (by omega), e0, m_owedSet hb hM, h1, l, if_true, if_false, not_true_eq_false, not_false_eq_true, and_true, true_and, and_false, false_and, and_self, or_true, true_or, or_false, false_or, reduceIte, iff_self, Int32.add_zero, y_10, Classical.not_not]
        refine ask _ ?_
        by_cases hg : grd a b D s = true
        · rw [if_pos hg] at hrc ⊢
          exact hrc
        · rw [if_neg hg] at hrc ⊢
          exact hrc
      | some t =>
        obtain ⟨t1, t2⟩ := mrg_in hm
        rw [hm] at hrc
        dsimp only at hrc
        dsimp only [ri]
        have l : ¬ nI t < 0 := nI_pos (by omega)
        have pl2 := pc_le t
        by_cases h2 : pc s < pc t
        · have h2' : ¬ nI (pc t) ≤ nI (pc s) := nI_ge h2 (by omega)
          simp only [z196_20, z196_21, z196_22, z196_25, z196_26, z196_29, z196_30, z196_31, z196_34, z196_35, z196_36, z196_37, z196_40, z196_41, z196_44, z196_45, z196_48, z196_49, z196_52, sm_cti, sm_ctr, sm_ctn, sm_nbi, Option.toList_some, Option.toList_none, List.cons_append, List.nil_append, ne_eq, reduceCtorEq, not_false_eq_true, Nat.reduceLeDiff, kc103, rc103, hM.2.1, tb_p2 D (by omega), e0, m_owedSet hb hM, h1, l, m_bitsOf, h2', if_true, if_false, not_true_eq_false, not_false_eq_true, and_true, true_and, and_false, false_and, and_self, or_true, true_or, or_false, false_or, reduceIte, iff_self, Int32.add_zero, y_10, Classical.not_not]
          refine ask _ ?_
          by_cases hg : grd a b D s = true
          · rw [if_pos ⟨hg, h2⟩] at hrc
            rw [if_pos hg]
            exact hrc
          · rw [if_neg (fun z => hg z.1)] at hrc
            rw [if_neg hg]
            exact hrc
        · have h2' : nI (pc t) ≤ nI (pc s) := nI_le (by omega) (by omega)
          rw [if_neg (fun z => h2 z.2)] at hrc
          simp only [z196_20, z196_21, z196_22, z196_25, z196_26, z196_29, z196_30, z196_31, z196_34, z196_35, z196_36, z196_37, z196_40, z196_41, z196_44, z196_45, z196_48, z196_49, z196_52, z196_65, z196_68, sm_cti, sm_ctr, sm_ctn, sm_nbi, Option.toList_some, Option.toList_none, List.cons_append, List.nil_append, ne_eq, reduceCtorEq, not_false_eq_true, Nat.reduceLeDiff, kc103, rc103, hM.2.1, tb_p2 D (by omega), e0, m_owedSet hb hM, h1, l, m_bitsOf, h2', nI_1, if_true, if_false, not_true_eq_false, not_false_eq_true, and_true, true_and, and_false, false_and, and_self, or_true, true_or, or_false, false_or, reduceIte, iff_self, Int32.add_zero, y_10, Classical.not_not]
          exact hrc
    · have hok : okg a b (ow f D) D s = false := by
        unfold okg
        rw [decide_eq_false h1, Bool.false_and, Bool.and_false]
      have hsame : mrg (okg a b (ow f D) D) (s + 1) = mrg (okg a b (ow f D) D) s := by
        rw [mrg_s, hok]
        cases mrg (okg a b (ow f D) D) s <;> rfl
      rw [← mrg_s, hsame] at hrc
      simp only [z196_20, z196_21, z196_22, z196_25, z196_26, z196_29, z196_30, z196_31, z196_34, z196_35, z196_36, z196_37, z196_65, z196_68, sm_cti, sm_ctr, sm_ctn, sm_nbi, Option.toList_some, Option.toList_none, List.cons_append, List.nil_append, ne_eq, reduceCtorEq, not_false_eq_true, Nat.reduceLeDiff, kc103, rc103, hM.2.1, tb_p2 D (by omega), e0, m_owedSet hb hM, h1, nI_1, if_true, if_false, not_true_eq_false, not_false_eq_true, and_true, true_and, and_false, false_and, and_self, or_true, true_or, or_false, false_or, reduceIte, iff_self, Int32.add_zero, y_10, Classical.not_not]
      exact hrc
end
theorem pw_round {n : Nat} {xs : Nat → Int32} {I : sm_I} {J : sm_J} (hI : Inv xs I J) (x : Int32) : pw n I J 97 [.ref 26, .int x, .null] 196 [.ref 103, .int x, .null, .null, .null] (fun I2 J2 => Inv xs I2 J2) := by
  obtain ⟨P, D, B, i1, i2, i3, i4, i5, i6, i7, i8⟩ := id hI
  obtain ⟨f, a, b, hb, cF, cT, mF, hz⟩ := fo_pure i2
  have hD := hb.2.1
  have hp := p2_le hD
  have hpp := p2_pos D
  have hmr : mrg (okr a b (ow f D) D) (2 ^ D) = mrg (okg a b (ow f D) D) (2 ^ D) := mrg_eq (a := a) (b := b) hD (Q := fun s => decide (nI s &&& (ow f D ^^^ (-1)) = 0)) (fun s t hst hq => by
      rw [decide_eq_true_iff] at hq ⊢
      rw [tb_sub] at hq ⊢
      intro i hi hti
      refine hq i hi ?_
      rw [tb_nIs hi] at hti ⊢
      exact hst i hti) (fun s hs => by
      unfold okr
      rw [Bool.and_eq_true, Bool.and_eq_true, decide_eq_true_iff, decide_eq_true_iff, decide_eq_true_iff, evs_bal hD (bd_ab hb)]) (fun s hs => by
      unfold okg
      rw [Bool.and_eq_true, Bool.and_eq_true, decide_eq_true_iff, decide_eq_true_iff]) (2 ^ D) (Nat.le_refl _)
  intro d K hK
  by_cases h0 : 0 ≤ x ∧ x ≤ 2
  · -- the reference up to the loop's end
    have ref : ∀ K2 : Option Value → sm_H → Prop, sm_Ok (d + 200) 196 71 [.ref 103, .int x, .int (ri (mrg (okg a b (ow f D) D) (2 ^ D))), .int (nI (2 ^ D)), .null] [] (sm_SH n, I, J) K2 → sm_Ok (d + 200) 196 0 [.ref 103, .int x, .null, .null, .null] [] (sm_SH n, I, J) K2 := fun K2 h3 => by
      rw [z196_0]
      simp only [z196_1, z196_2, z196_3, z196_6, z196_9, z196_14, z196_16, z196_17, z196_18, sm_cti, sm_ctr, sm_ctn, sm_nbi, Option.toList_some, Option.toList_none, List.cons_append, List.nil_append, ne_eq, reduceCtorEq, not_false_eq_true, Nat.reduceLeDiff, m_within, y_w0, y_v2, y_bit, h0, if_true, if_false, not_true_eq_false, not_false_eq_true, and_true, true_and, and_false, false_and, and_self, or_true, true_or, or_false, false_or, reduceIte, iff_self, Int32.add_zero, y_10, Classical.not_not]
      have := m_rd_lp hb mF x (d + 198) n J K2 h3 (2 ^ D - 1) 1 (by omega) (by omega)
      rw [okg_1] at this
      exact this
    cases hm : mrg (okg a b (ow f D) D) (2 ^ D) with
    | none =>
      have hr : nI (rb0 (mrg (okr a b (ow f D) D) (2 ^ D))) = 0 := by
        rw [hmr, hm]
        rfl
      rw [z97_0]
      simp only [z97_1, z97_2, z97_5, z97_10, z97_11, z97_14, z97_15, z97_18, z97_21, z97_22, z97_23, z97_26, z97_28, sm_cti, sm_ctr, sm_ctn, sm_nbi, Option.toList_some, Option.toList_none, List.cons_append, List.nil_append, ne_eq, reduceCtorEq, not_false_eq_true, Nat.reduceLeDiff, kc26, rc84, rf26_3, rf26_10, y_within, y_bit, h0, c_ring hb cF cT, hr, if_true, if_false, not_true_eq_false, not_false_eq_true, and_true, true_and, and_false, false_and, and_self, or_true, true_or, or_false, false_or, reduceIte, iff_self, Int32.add_zero, y_10, Classical.not_not]
      refine hK _ I J (fun K2 h3 => ref K2 ?_)
      rw [hm]
      dsimp only [ri]
      have l : (-2 : Int32) < 0 := by decide
      simp only [z196_71, z196_72, z196_80, z196_81, sm_cti, sm_ctr, sm_ctn, sm_nbi, Option.toList_some, Option.toList_none, List.cons_append, List.nil_append, ne_eq, reduceCtorEq, not_false_eq_true, Nat.reduceLeDiff, l, if_true, if_false, not_true_eq_false, not_false_eq_true, and_true, true_and, and_false, false_and, and_self, or_true, true_or, or_false, false_or, reduceIte, iff_self, Int32.add_zero, y_10, Classical.not_not]
      exact h3 I J hI
    | some t =>
      have hm2 := hmr
      rw [hm] at hm2
      obtain ⟨t1, t2⟩ := mrg_in hm2
      have t0 : ¬ t = 0 := by
        unfold okr at t2
        rw [Bool.and_eq_true, decide_eq_true_iff] at t2
        exact t2.1
      have hr : rb0 (mrg (okr a b (ow f D) D) (2 ^ D)) = t := by
        rw [hm2]
        rfl
      have hn0 : ¬ nI t = 0 := fun z => t0 ((nI_eq (b := 0) (by omega) (by decide)).mp z)
      have l : ¬ nI t < 0 := nI_pos (by omega)
      obtain ⟨p, hp2, hbp⟩ := nat_nz t1 t0
      have hls : lsv f 999 t D = lsv f 1000000 t D := by
        have e1 := lsv_min (f := f) (s := t) D
        have e2 := lsv_el (f := f) (z := 1000000) hbp D hp2
        have e3 := hb.2.2.1 (40 + p) (by omega)
        rw [top_s (by omega)] at e3
        omega
      have e10 : ((1 : Int32) = 0) = False := by decide
      by_cases hx0 : x = 0
      · subst hx0
        rw [z97_0]
        simp only [z97_1, z97_2, z97_5, z97_8, z97_9, z97_10, z97_11, z97_14, z97_15, z97_18, z97_21, z97_22, z97_23, z97_26, z97_28, z97_29, z97_30, z97_56, z97_57, z97_60, z97_63, z97_64, z97_67, z97_68, z97_71, z97_72, z97_75, z97_76, z97_79, sm_cti, sm_ctr, sm_ctn, sm_nbi, Option.toList_some, Option.toList_none, List.cons_append, List.nil_append, ne_eq, reduceCtorEq, not_false_eq_true, Nat.reduceLeDiff, kc26, rc84, rf26_3, rf26_10, y_within, y_bit, h0, c_ring hb cF cT, hr, hn0, y_bitCount (show t < 4096 by omega), if_true, if_false, not_true_eq_false, not_false_eq_true, and_true, true_and, and_false, false_and, and_self, or_true, true_or, or_false, false_or, reduceIte, iff_self, Int32.add_zero, y_10, Classical.not_not]
        refine hK _ I J (fun K2 h3 => ref K2 ?_)
        rw [hm]
        dsimp only [ri]
        have e01 : ¬ (0 : Int32) = 1 := by decide
        simp only [z196_71, z196_72, z196_75, z196_76, z196_77, z196_82, z196_85, z196_86, z196_87, sm_cti, sm_ctr, sm_ctn, sm_nbi, Option.toList_some, Option.toList_none, List.cons_append, List.nil_append, ne_eq, reduceCtorEq, not_false_eq_true, Nat.reduceLeDiff, l, e01, if_true, if_false, not_true_eq_false, not_false_eq_true, and_true, true_and, and_false, false_and, and_self, or_true, true_or, or_false, false_or, reduceIte, iff_self, Int32.add_zero, y_10, Classical.not_not]
        refine (m_ml_lp hb mF t 0 (d + 199) n J K2 D 0 (by omega)).mpr ?_
        simp only [z196_132, z196_133, z196_136, z196_137, z196_140, z196_144, sm_cti, sm_ctr, sm_ctn, sm_nbi, Option.toList_some, Option.toList_none, List.cons_append, List.nil_append, ne_eq, reduceCtorEq, not_false_eq_true, Nat.reduceLeDiff, m_bitsOf, if_true, if_false, not_true_eq_false, not_false_eq_true, and_true, true_and, and_false, false_and, and_self, or_true, true_or, or_false, false_or, reduceIte, iff_self, Int32.add_zero, y_10, Classical.not_not]
        exact h3 I J hI
      · by_cases hx1 : x = 1
        · subst hx1
          rw [z97_0]
          simp only [z97_1, z97_2, z97_5, z97_8, z97_9, z97_10, z97_11, z97_14, z97_15, z97_18, z97_21, z97_22, z97_23, z97_26, z97_28, z97_29, z97_30, z97_56, z97_57, z97_60, z97_63, z97_64, z97_67, z97_68, z97_71, z97_72, z97_75, z97_76, z97_79, sm_cti, sm_ctr, sm_ctn, sm_nbi, Option.toList_some, Option.toList_none, List.cons_append, List.nil_append, ne_eq, reduceCtorEq, not_false_eq_true, Nat.reduceLeDiff, kc26, rc84, rf26_3, rf26_10, y_within, y_bit, h0, c_ring hb cF cT, hr, hn0, if_true, if_false, not_true_eq_false, not_false_eq_true, and_true, true_and, and_false, false_and, and_self, or_true, true_or, or_false, false_or, reduceIte, iff_self, Int32.add_zero, y_10, Classical.not_not]
          refine hK _ I J (fun K2 h3 => ref K2 ?_)
          rw [hm]
          dsimp only [ri]
          simp only [z196_71, z196_72, z196_75, z196_76, z196_77, z196_80, z196_81, sm_cti, sm_ctr, sm_ctn, sm_nbi, Option.toList_some, Option.toList_none, List.cons_append, List.nil_append, ne_eq, reduceCtorEq, not_false_eq_true, Nat.reduceLeDiff, l, if_true, if_false, not_true_eq_false, not_false_eq_true, and_true, true_and, and_false, false_and, and_self, or_true, true_or, or_false, false_or, reduceIte, iff_self, Int32.add_zero, y_10, Classical.not_not]
          exact h3 I J hI
        · rw [z97_0]
          simp only [z97_1, z97_2, z97_5, z97_8, z97_9, z97_10, z97_11, z97_14, z97_15, z97_18, z97_21, z97_22, z97_23, z97_26, z97_28, z97_29, z97_30, z97_56, z97_57, z97_60, z97_63, z97_64, z97_67, z97_68, z97_71, z97_72, z97_75, z97_76, z97_79, sm_cti, sm_ctr, sm_ctn, sm_nbi, Option.toList_some, Option.toList_none, List.cons_append, List.nil_append, ne_eq, reduceCtorEq, not_false_eq_true, Nat.reduceLeDiff, kc26, rc84, rf26_3, rf26_10, y_within, y_bit, h0, c_ring hb cF cT, hr, hn0, hx0, hx1, c_leastOf hb cF cT, if_true, if_false, not_true_eq_false, not_false_eq_true, and_true, true_and, and_false, false_and, and_self, or_true, true_or, or_false, false_or, reduceIte, iff_self, Int32.add_zero, y_10, Classical.not_not]
          refine hK _ I J (fun K2 h3 => ref K2 ?_)
          rw [hm]
          dsimp only [ri]
          simp only [z196_71, z196_72, z196_75, z196_76, z196_77, z196_82, z196_85, z196_86, z196_87, sm_cti, sm_ctr, sm_ctn, sm_nbi, Option.toList_some, Option.toList_none, List.cons_append, List.nil_append, ne_eq, reduceCtorEq, not_false_eq_true, Nat.reduceLeDiff, l, hx1, if_true, if_false, not_true_eq_false, not_false_eq_true, and_true, true_and, and_false, false_and, and_self, or_true, true_or, or_false, false_or, reduceIte, iff_self, Int32.add_zero, y_10, Classical.not_not]
          refine (m_ml_lp hb mF t x (d + 199) n J K2 D 0 (by omega)).mpr ?_
          simp only [z196_132, z196_133, z196_143, z196_144, sm_cti, sm_ctr, sm_ctn, sm_nbi, Option.toList_some, Option.toList_none, List.cons_append, List.nil_append, ne_eq, reduceCtorEq, not_false_eq_true, Nat.reduceLeDiff, hx0, if_true, if_false, not_true_eq_false, not_false_eq_true, and_true, true_and, and_false, false_and, and_self, or_true, true_or, or_false, false_or, reduceIte, iff_self, Int32.add_zero, y_10, Classical.not_not]
          rw [← hls]
          exact h3 I J hI
  · rw [z97_0]
    simp only [z97_1, z97_2, z97_5, z97_8, z97_9, sm_cti, sm_ctr, sm_ctn, sm_nbi, Option.toList_some, Option.toList_none, List.cons_append, List.nil_append, ne_eq, reduceCtorEq, not_false_eq_true, Nat.reduceLeDiff, y_within, y_bit, h0, if_true, if_false, not_true_eq_false, not_false_eq_true, and_true, true_and, and_false, false_and, and_self, or_true, true_or, or_false, false_or, reduceIte, iff_self, Int32.add_zero, y_10, Classical.not_not]
    refine hK _ I J (fun K2 h3 => ?_)
    rw [z196_0]
    simp only [z196_1, z196_2, z196_3, z196_6, z196_9, z196_12, z196_13, sm_cti, sm_ctr, sm_ctn, sm_nbi, Option.toList_some, Option.toList_none, List.cons_append, List.nil_append, ne_eq, reduceCtorEq, not_false_eq_true, Nat.reduceLeDiff, m_within, y_w0, y_v2, y_bit, h0, if_true, if_false, not_true_eq_false, not_false_eq_true, and_true, true_and, and_false, false_and, and_self, or_true, true_or, or_false, false_or, reduceIte, iff_self, Int32.add_zero, y_10, Classical.not_not]
    exact h3 I J hI
