/-! sets as bits -/
def tb (x : Int32) (i : Nat) : Bool := x.toBitVec.getLsbD i
theorem tb_and (x y : Int32) (i : Nat) : tb (x &&& y) i = (tb x i && tb y i) := by
  unfold tb
  rw [Int32.toBitVec_and, BitVec.getLsbD_and]
theorem tb_or (x y : Int32) (i : Nat) : tb (x ||| y) i = (tb x i || tb y i) := by
  unfold tb
  rw [Int32.toBitVec_or, BitVec.getLsbD_or]
theorem tb_m1 : ∀ i, i < 32 → tb (-1) i = true := by decide +kernel
theorem tb_not (x : Int32) {i : Nat} (h : i < 32) : tb (x ^^^ (-1)) i = !tb x i := by
  have h1 := tb_m1 i h
  unfold tb at *
  rw [Int32.toBitVec_xor, BitVec.getLsbD_xor, h1, Bool.xor_true]
theorem tb_xor (x y : Int32) (i : Nat) : tb (x ^^^ y) i = (tb x i ^^ tb y i) := by
  unfold tb
  rw [Int32.toBitVec_xor, BitVec.getLsbD_xor]
theorem tb_bit0 : ∀ k, k < 32 → ∀ i, i < 32 → tb (1 <<< (nI k &&& 31)) i = decide (i = k) := by decide +kernel
theorem tb_nI (s i : Nat) : tb (nI s) i = (decide (i < 32) && s.testBit i) := by
  show (BitVec.ofNat 32 s).getLsbD i = _
  rw [BitVec.getLsbD_ofNat]
theorem tb_hi (x : Int32) {i : Nat} (h : 32 ≤ i) : tb x i = false := BitVec.getLsbD_of_ge _ _ h
theorem tb_ext {x y : Int32} (h : ∀ i, i < 32 → tb x i = tb y i) : x = y := Int32.toBitVec_inj.mp (BitVec.eq_of_getLsbD_eq (fun i hi => h i hi))
theorem tb_0 (i : Nat) : tb 0 i = false := by
  show (0#32).getLsbD i = false
  exact BitVec.getLsbD_zero
theorem tb_1 : ∀ i, i < 32 → tb 1 i = decide (i = 0) := by decide +kernel
theorem tb_amt : ∀ k, k < 32 → ((nI k &&& 31).toBitVec.smod 32).toNat = k := by decide +kernel
theorem tb_shr (s : Int32) {k : Nat} (hk : k < 32) : tb (s >>> (nI k &&& 31)) 0 = tb s k := by
  unfold tb
  rw [Int32.toBitVec_shiftRight]
  show (BitVec.sshiftRight s.toBitVec ((nI k &&& 31).toBitVec.smod 32).toNat).getLsbD 0 = _
  rw [tb_amt k hk, BitVec.getLsbD_sshiftRight]
  simp [hk]
theorem tb_sh (s : Int32) {k : Nat} (hk : k < 32) : (s >>> (nI k &&& 31)) &&& 1 = if tb s k = true then 1 else 0 := by
  apply tb_ext
  intro i hi
  rw [tb_and, tb_1 i hi]
  by_cases h0 : i = 0
  · subst h0
    rw [tb_shr s hk]
    by_cases h1 : tb s k = true
    · rw [if_pos h1, h1, tb_1 0 (by decide)]
      rfl
    · rw [if_neg h1, tb_0]
      simp [h1]
  · by_cases h1 : tb s k = true
    · rw [if_pos h1, tb_1 i hi]
      simp [h0]
    · rw [if_neg h1, tb_0]
      simp [h0]
theorem tb_in (s : Int32) {k : Nat} (hk : k < 32) : ((s >>> (nI k &&& 31)) &&& 1 = 1) = (tb s k = true) := by
  rw [tb_sh s hk]
  by_cases h : tb s k = true
  · simp [h]
  · simp [h]
theorem tb_in0 (s : Int32) {k : Nat} (hk : k < 32) : ((s >>> (nI k &&& 31)) &&& 1 = 0) = (tb s k = false) := by
  rw [tb_sh s hk]
  by_cases h : tb s k = true
  · simp [h]
  · simp [h]
theorem tb_sub (x y : Int32) : (x &&& (y ^^^ (-1)) = 0) ↔ ∀ i, i < 32 → tb x i = true → tb y i = true := by
  constructor
  · intro h i hi hx
    have h2 : tb (x &&& (y ^^^ (-1))) i = tb 0 i := by rw [h]
    rw [tb_and, tb_not y hi, tb_0, hx] at h2
    simpa using h2
  · intro h
    apply tb_ext
    intro i hi
    rw [tb_and, tb_not y hi, tb_0]
    cases hx : tb x i with
    | false => rfl
    | true => rw [h i hi hx]; rfl
theorem tb_clr (x : Int32) {k i : Nat} (hk : k < 32) (hi : i < 32) : tb (x &&& ((1 <<< (nI k &&& 31)) ^^^ (-1))) i = (tb x i && !decide (i = k)) := by
  rw [tb_and, tb_not _ hi, tb_bit0 k hk i hi]
theorem tb_p2 : ∀ D, D < 13 → (1 : Int32) <<< (nI D &&& 31) = nI (2 ^ D) := by decide +kernel
theorem or_z (x : Int32) : x ||| 0 = x := tb_ext (fun i hi => by rw [tb_or, tb_0, Bool.or_false])
/-- how many -/
def pc (s : Nat) : Nat := cnt (fun i => s.testBit i) 12
theorem pc_le (s : Nat) : pc s ≤ 12 := cnt_le _ _
def ush (x k : Int32) : Int32 := (x.toUInt32 >>> (k.toUInt32 &&& Int32.toUInt32 31)).toInt32
def bcf1 (x : Int32) : Int32 := x - (ush x 1 &&& 1431655765)
def bcf2 (x : Int32) : Int32 := (x &&& 858993459) + (ush x 2 &&& 858993459)
def bcf3 (x : Int32) : Int32 := (x + ush x 4) &&& 252645135
def bcf4 (x : Int32) : Int32 := x + ush x 8
def bcf5 (x : Int32) : Int32 := (x + ush x 16) &&& 63
theorem bc_eq0 : ∀ x, x < 64 → ∀ y, y < 64 → bcf5 (bcf4 (bcf3 (bcf2 (bcf1 (nI (64 * x + y)))))) = nI (pc (64 * x + y)) := by decide +kernel
theorem bc_eq (s : Nat) (hs : s < 4096) : bcf5 (bcf4 (bcf3 (bcf2 (bcf1 (nI s))))) = nI (pc s) := by
  have := bc_eq0 (s / 64) (by omega) (s % 64) (by omega)
  rw [show 64 * (s / 64) + s % 64 = s by omega] at this
  exact this
theorem y_bitCount {s : Nat} (hs : s < 4096) (d n : Nat) (I : sm_I) (J : sm_J) (K : Option Value → sm_H → Prop) : sm_Ok d 240 0 [.int (nI s)] [] (sm_SH n, I, J) K ↔ K (some (.int (nI (pc s)))) (sm_SH n, I, J) := by
  rw [← bc_eq s hs]
  simp only [z240_0, z240_1, z240_2, z240_3, z240_4, z240_7, z240_8, z240_9, z240_10, z240_11, z240_14, z240_15, z240_16, z240_17, z240_18, z240_21, z240_22, z240_23, z240_24, z240_25, z240_26, z240_27, z240_28, z240_29, z240_32, z240_33, z240_34, z240_35, z240_36, z240_38, z240_39, z240_40, z240_41, z240_42, z240_43, z240_45, z240_46, z240_47, z240_48, z240_49, z240_51, z240_52, sm_cti, sm_ctr, sm_ctn, sm_nbi, Option.toList_some, Option.toList_none, List.cons_append, List.nil_append, ne_eq, reduceCtorEq, not_false_eq_true, Nat.reduceLeDiff, if_true, if_false, not_true_eq_false, not_false_eq_true, and_true, true_and, and_false, false_and, and_self, or_true, true_or, or_false, false_or, reduceIte, iff_self, Int32.add_zero, y_10, Classical.not_not]
  exact Iff.rfl
theorem m_bits_lp (s : Nat) (d n : Nat) (I : sm_I) (J : sm_J) (K : Option Value → sm_H → Prop) : ∀ (w k : Nat), k + w = 12 →
    (sm_Ok d 150 4 [.int (nI s), .int (nI (cnt (fun i => s.testBit i) k)), .int (nI k)] [] (sm_SH n, I, J) K ↔ K (some (.int (nI (pc s)))) (sm_SH n, I, J))
  | 0, k, h => by
    have hk : k = 12 := by omega
    subst hk
    have e : (12 : Int32) ≤ nI 12 := by decide
    rw [z150_4]
    simp only [z150_1, z150_2, z150_3, z150_5, z150_7, z150_10, z150_11, z150_12, z150_13, z150_14, z150_15, z150_16, z150_17, z150_18, z150_21, z150_24, z150_25, sm_cti, sm_ctr, sm_ctn, sm_nbi, Option.toList_some, Option.toList_none, List.cons_append, List.nil_append, ne_eq, reduceCtorEq, not_false_eq_true, Nat.reduceLeDiff, e, if_true, if_false, not_true_eq_false, not_false_eq_true, and_true, true_and, and_false, false_and, and_self, or_true, true_or, or_false, false_or, reduceIte, iff_self, Int32.add_zero, y_10, Classical.not_not]
    exact Iff.rfl
  | w + 1, k, h => by
    have e : ¬ (12 : Int32) ≤ nI k := nI_ge (b := 12) (by omega) (by decide)
    have ev : nI (cnt (fun i => s.testBit i) k) + ((nI s >>> (nI k &&& 31)) &&& 1) = nI (cnt (fun i => s.testBit i) (k + 1)) := by
      rw [tb_sh _ (show k < 32 by omega), tb_nI]
      have h32 : decide (k < 32) = true := decide_eq_true (by omega)
      rw [h32, Bool.true_and]
      show _ = nI (cnt (fun i => s.testBit i) k + (if s.testBit k = true then 1 else 0))
      by_cases hb : s.testBit k = true
      · rw [if_pos hb, if_pos hb]
        exact nI_add _ 1
      · rw [if_neg hb, if_neg hb, Int32.add_zero, Nat.add_zero]
    rw [← m_bits_lp s d n I J K w (k + 1) (by omega), z150_4]
    simp only [z150_1, z150_2, z150_3, z150_5, z150_7, z150_10, z150_11, z150_12, z150_13, z150_14, z150_15, z150_16, z150_17, z150_18, z150_21, z150_24, z150_25, sm_cti, sm_ctr, sm_ctn, sm_nbi, Option.toList_some, Option.toList_none, List.cons_append, List.nil_append, ne_eq, reduceCtorEq, not_false_eq_true, Nat.reduceLeDiff, e, ev, nI_1, if_true, if_false, not_true_eq_false, not_false_eq_true, and_true, true_and, and_false, false_and, and_self, or_true, true_or, or_false, false_or, reduceIte, iff_self, Int32.add_zero, y_10, Classical.not_not]
theorem m_bitsOf (s : Nat) (d n : Nat) (I : sm_I) (J : sm_J) (K : Option Value → sm_H → Prop) : sm_Ok d 150 0 [.int (nI s), .null, .null] [] (sm_SH n, I, J) K ↔ K (some (.int (nI (pc s)))) (sm_SH n, I, J) := by
  rw [← m_bits_lp s d n I J K 12 0 rfl, z150_0]
  simp only [z150_1, z150_2, z150_3, sm_cti, sm_ctr, sm_ctn, sm_nbi, Option.toList_some, Option.toList_none, List.cons_append, List.nil_append, ne_eq, reduceCtorEq, not_false_eq_true, Nat.reduceLeDiff, if_true, if_false, not_true_eq_false, not_false_eq_true, and_true, true_and, and_false, false_and, and_self, or_true, true_or, or_false, false_or, reduceIte, iff_self, Int32.add_zero, y_10, Classical.not_not]
  exact Iff.rfl
theorem m_isInX (s : Int32) {k : Nat} (hk : k < 32) (d n : Nat) (I : sm_I) (J : sm_J) (K : Option Value → sm_H → Prop) : sm_Ok d 149 0 [.int s, .int (nI k)] [] (sm_SH n, I, J) K ↔ K (some (.int (if tb s k = true then 1 else 0))) (sm_SH n, I, J) := by
  rw [m_isIn]
  simp only [tb_in s hk]
/-- the debts above 0 -/
def ow (g : Nat → Nat) : Nat → Int32
  | 0 => 0
  | k + 1 => if g (40 + k) = 0 then ow g k else ow g k ||| (1 <<< (nI k &&& 31))
theorem ow_s {g : Nat → Nat} {k : Nat} : ow g (k + 1) = if g (40 + k) = 0 then ow g k else ow g k ||| (1 <<< (nI k &&& 31)) := rfl
theorem tb_ow {g : Nat → Nat} : ∀ {D : Nat}, D ≤ 12 → ∀ i, i < 32 → tb (ow g D) i = (decide (i < D) && !decide (g (40 + i) = 0))
  | 0, _, i, _ => by
    show tb 0 i = _
    rw [tb_0]
    simp
  | k + 1, h, i, hi => by
    have ih := tb_ow (g := g) (D := k) (by omega) i hi
    rw [ow_s]
    by_cases hk : i = k
    · subst hk
      by_cases hg : g (40 + i) = 0
      · rw [if_pos hg, ih]
        simp [hg]
      · rw [if_neg hg, tb_or, ih, tb_bit0 i (by omega) i hi]
        simp [hg]
    · have hd : decide (i < k + 1) = decide (i < k) := decide_eq_decide.mpr (by omega)
      by_cases hg : g (40 + k) = 0
      · rw [if_pos hg, ih, hd]
      · rw [if_neg hg, tb_or, ih, tb_bit0 k (by omega) i hi, hd]
        simp [hk]
section
variable {P D : Nat} {f a b : Nat → Nat}
theorem m_ow_lp {I : sm_I} (hb : bdf P D f a b) (hM : mFo P D f a b I) (d n : Nat) (J : sm_J) (K : Option Value → sm_H → Prop) : ∀ (w k : Nat), k + w = D →
    (sm_Ok d 195 4 [.ref 103, .int (ow f k), .int (nI k)] [] (sm_SH n, I, J) K ↔ K (some (.int (ow f D))) (sm_SH n, I, J))
  | 0, k, h => by
    have hk : k = D := by omega
    subst hk
    rw [z195_4]
    simp only [z195_1, z195_2, z195_3, z195_5, z195_6, z195_9, z195_12, z195_13, z195_14, z195_17, z195_19, z195_20, z195_21, z195_22, z195_25, z195_26, z195_27, z195_28, z195_31, z195_32, z195_33, z195_34, z195_37, z195_40, z195_41, sm_cti, sm_ctr, sm_ctn, sm_nbi, Option.toList_some, Option.toList_none, List.cons_append, List.nil_append, ne_eq, reduceCtorEq, not_false_eq_true, Nat.reduceLeDiff, kc103, hM.2.1, Int32.le_refl, if_true, if_false, not_true_eq_false, not_false_eq_true, and_true, true_and, and_false, false_and, and_self, or_true, true_or, or_false, false_or, reduceIte, iff_self, Int32.add_zero, y_10, Classical.not_not]
  | w + 1, k, h => by
    have hD := hb.2.1
    have e0 : ¬ nI D ≤ nI k := nI_ge (show k < D by omega) (by omega)
    have e3 := hM.2.2.1 (40 + k) (by omega)
    have a40 : (40 : Int32) + nI k = nI (40 + k) := nI_add 40 k
    have tl := hb.2.2.1 (40 + k) (by omega)
    have tt := top_le (40 + k)
    rw [← m_ow_lp hb hM d n J K w (k + 1) (by omega), z195_4, ow_s]
    by_cases hg : f (40 + k) = 0
    · have l : nI (f (40 + k)) ≤ 0 := by rw [hg]; decide
      have hg' := eq_true hg
      simp only [z195_1, z195_2, z195_3, z195_5, z195_6, z195_9, z195_12, z195_13, z195_14, z195_17, z195_19, z195_20, z195_21, z195_22, z195_25, z195_26, z195_27, z195_28, z195_31, z195_32, z195_33, z195_34, z195_37, z195_40, z195_41, sm_cti, sm_ctr, sm_ctn, sm_nbi, Option.toList_some, Option.toList_none, List.cons_append, List.nil_append, ne_eq, reduceCtorEq, not_false_eq_true, Nat.reduceLeDiff, kc103, kc104, rf103_0, hM.2.1, e0, e3, a40, l, hg', or_z, nI_1, y_inN (show 40 + k < 54 by omega) (by decide), nI_clamp (show 40 + k < 2 ^ 31 by omega), if_true, if_false, not_true_eq_false, not_false_eq_true, and_true, true_and, and_false, false_and, and_self, or_true, true_or, or_false, false_or, reduceIte, iff_self, Int32.add_zero, y_10, Classical.not_not]
    · have l : ¬ nI (f (40 + k)) ≤ 0 := nI_ge (a := 0) (by omega) (by omega)
      simp only [z195_1, z195_2, z195_3, z195_5, z195_6, z195_9, z195_12, z195_13, z195_14, z195_17, z195_19, z195_20, z195_21, z195_22, z195_25, z195_26, z195_27, z195_28, z195_31, z195_32, z195_33, z195_34, z195_37, z195_40, z195_41, sm_cti, sm_ctr, sm_ctn, sm_nbi, Option.toList_some, Option.toList_none, List.cons_append, List.nil_append, ne_eq, reduceCtorEq, not_false_eq_true, Nat.reduceLeDiff, kc103, kc104, rf103_0, hM.2.1, e0, e3, a40, l, hg, nI_1, y_inN (show 40 + k < 54 by omega) (by decide), nI_clamp (show 40 + k < 2 ^ 31 by omega), if_true, if_false, not_true_eq_false, not_false_eq_true, and_true, true_and, and_false, false_and, and_self, or_true, true_or, or_false, false_or, reduceIte, iff_self, Int32.add_zero, y_10, Classical.not_not]
theorem m_owedSet {I : sm_I} (hb : bdf P D f a b) (hM : mFo P D f a b I) (d n : Nat) (J : sm_J) (K : Option Value → sm_H → Prop) :
    sm_Ok d 195 0 [.ref 103, .null, .null] [] (sm_SH n, I, J) K ↔ K (some (.int (ow f D))) (sm_SH n, I, J) := by
  rw [← m_ow_lp hb hM d n J K D 0 (by omega), z195_0]
  simp only [z195_1, z195_2, z195_3, sm_cti, sm_ctr, sm_ctn, sm_nbi, Option.toList_some, Option.toList_none, List.cons_append, List.nil_append, ne_eq, reduceCtorEq, not_false_eq_true, Nat.reduceLeDiff, if_true, if_false, not_true_eq_false, not_false_eq_true, and_true, true_and, and_false, false_and, and_self, or_true, true_or, or_false, false_or, reduceIte, iff_self, Int32.add_zero, y_10, Classical.not_not]
  exact Iff.rfl
end
