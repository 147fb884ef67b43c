/-! best: the search, purely, and the class's -/
abbrev SG := Option (Nat × (Nat → Nat))
def bup (σ : SG) (p : Nat) (pr : Nat → Nat) : SG := match σ with
  | none => some (p, pr)
  | some (m, c) => if m < p then some (p, pr) else some (m, c)
def so (D j : Nat) : Nat := if j < D then j else 12
def fldS (F : Nat → SG → SG) : Nat → Nat → SG → SG
  | 0, _, σ => σ
  | n + 1, j, σ => fldS F n (j + 1) (F j σ)
theorem fldS_s {F : Nat → SG → SG} {n j : Nat} {σ : SG} : fldS F (n + 1) j σ = fldS F n (j + 1) (F j σ) := rfl
def mo (σ : SG) : Int32 := match σ with
  | none => -1
  | some mc => nI mc.1
def bS (σ : SG) : Prop := match σ with
  | none => True
  | some mc => mc.1 ≤ 1000
def dead (σ : SG) (x : Nat) : Prop := match σ with
  | none => False
  | some mc => x ≤ mc.1
def bR (t q : Nat) (σ : SG) (I : sm_I) : Prop := match σ with
  | none => True
  | some mc => ∀ j, j < t → I q j = nI (mc.2 j)
theorem mo_le {σ : SG} (h : bS σ) {x : Nat} (hx : x < 2 ^ 31) : (nI x ≤ mo σ) ↔ dead σ x := by
  cases σ with
  | none =>
    refine ⟨fun z => ?_, fun z => absurd z id⟩
    have h1 : nI x ≤ (-1 : Int32) := z
    have h2 := Int32.le_trans (nI_pos' hx) h1
    exact absurd h2 (by decide)
  | some mc =>
    have hb : mc.1 ≤ 1000 := h
    exact nI_leI hx (by omega)
theorem mo_lt {σ : SG} (h : bS σ) {x : Nat} (hx : x < 2 ^ 31) : (mo σ < nI x) ↔ ¬ dead σ x := by
  rw [← mo_le h hx]
  exact Int32.not_le.symm
theorem bup_dead {σ : SG} {p : Nat} {pr : Nat → Nat} (h : dead σ p) : bup σ p pr = σ := by
  cases σ with
  | none => exact absurd h id
  | some mc =>
    have h1 : p ≤ mc.1 := h
    show (if mc.1 < p then some (p, pr) else some (mc.1, mc.2)) = some mc
    rw [if_neg (by omega)]
theorem bup_live {σ : SG} {p : Nat} {pr : Nat → Nat} (h : ¬ dead σ p) : bup σ p pr = some (p, pr) := by
  cases σ with
  | none => rfl
  | some mc =>
    have h1 : ¬ p ≤ mc.1 := h
    show (if mc.1 < p then some (p, pr) else some (mc.1, mc.2)) = some (p, pr)
    rw [if_pos (by omega)]
theorem dead_le {σ : SG} {x y : Nat} (h : dead σ x) (hxy : y ≤ x) : dead σ y := by
  cases σ with
  | none => exact h
  | some mc => exact Nat.le_trans hxy h
theorem fldS_id {F : Nat → SG → SG} {σ : SG} (h : ∀ j, F j σ = σ) : ∀ n j, fldS F n j σ = σ
  | 0, _ => rfl
  | n + 1, j => by rw [fldS_s, h j, fldS_id h n]
section
variable {P D : Nat} {f a b : Nat → Nat} {lo : Option ((Nat → Nat) × Nat)}
theorem rn_congr {sl sl' g : Nat → Nat} : ∀ {k : Nat}, (∀ i, i < k → sl i = sl' i) → rnt P D f a b lo sl g k = rnt P D f a b lo sl' g k ∧ rps P D f a b lo sl g k = rps P D f a b lo sl' g k
  | 0, _ => ⟨rfl, rfl⟩
  | k + 1, h => by
    obtain ⟨h1, h2⟩ := rn_congr (g := g) (k := k) (fun i hi => h i (by omega))
    have hk := h k (by omega)
    constructor
    · show psg P D f a b lo (rnt P D f a b lo sl g k) (sl k) = psg P D f a b lo (rnt P D f a b lo sl' g k) (sl' k)
      rw [h1, hk]
    · show rps P D f a b lo sl g k + pay P D f a b lo (rnt P D f a b lo sl g k) (sl k) = rps P D f a b lo sl' g k + pay P D f a b lo (rnt P D f a b lo sl' g k) (sl' k)
      rw [h1, h2, hk]
theorem rn_fv {pr : Nat → Nat} {k e : Nat} : rnt P D f a b lo (fv pr k e) f k = rnt P D f a b lo pr f k ∧ rps P D f a b lo (fv pr k e) f k = rps P D f a b lo pr f k := rn_congr (fun i hi => fv_o _ (by omega))
theorem rn_s {pr : Nat → Nat} {k e : Nat} : rnt P D f a b lo (fv pr k e) f (k + 1) = psg P D f a b lo (rnt P D f a b lo pr f k) e ∧ rps P D f a b lo (fv pr k e) f (k + 1) = rps P D f a b lo pr f k + pay P D f a b lo (rnt P D f a b lo pr f k) e := by
  obtain ⟨h1, h2⟩ := rn_fv (P := P) (D := D) (f := f) (a := a) (b := b) (lo := lo) (pr := pr) (k := k) (e := e)
  constructor
  · show psg P D f a b lo (rnt P D f a b lo (fv pr k e) f k) (fv pr k e k) = _
    rw [h1, fv_s]
  · show rps P D f a b lo (fv pr k e) f k + pay P D f a b lo (rnt P D f a b lo (fv pr k e) f k) (fv pr k e k) = _
    rw [h1, h2, fv_s]
/-- all songs of w evenings tried, the least numbers first -/
def fsr (P D : Nat) (f a b : Nat → Nat) (lo : Option ((Nat → Nat) × Nat)) : Nat → Nat → (Nat → Nat) → SG → SG
  | 0, k, pr, σ => bup σ (rps P D f a b lo pr f k) pr
  | w + 1, k, pr, σ => fldS (fun j σ => fsr P D f a b lo w (k + 1) (fv pr k (so D j)) σ) (D + 1) 0 σ
theorem fsr_dead : ∀ {w k : Nat} {pr : Nat → Nat} {σ : SG}, dead σ (rps P D f a b lo pr f k + 9 * w) → fsr P D f a b lo w k pr σ = σ
  | 0, k, pr, σ, h => bup_dead h
  | w + 1, k, pr, σ, h => by
    show fldS (fun j σ => fsr P D f a b lo w (k + 1) (fv pr k (so D j)) σ) (D + 1) 0 σ = σ
    refine fldS_id (fun j => fsr_dead ?_) _ _
    rw [rn_s.2]
    have := (pay_le (P := P) (D := D) (f := f) (a := a) (b := b) lo (rnt P D f a b lo pr f k) (so D j)).1
    exact dead_le h (by omega)
theorem bup_some (σ : SG) (p : Nat) (pr : Nat → Nat) : ∃ mc, bup σ p pr = some mc := by
  by_cases h : dead σ p
  · rw [bup_dead h]
    cases σ with
    | none => exact absurd h id
    | some mc => exact ⟨mc, rfl⟩
  · rw [bup_live h]
    exact ⟨_, rfl⟩
theorem fsr_some : ∀ {w k : Nat} {pr : Nat → Nat} {σ : SG}, ∃ mc, fsr P D f a b lo w k pr σ = some mc
  | 0, k, pr, σ => bup_some _ _ _
  | w + 1, k, pr, σ => by
    show ∃ mc, fldS (fun j σ => fsr P D f a b lo w (k + 1) (fv pr k (so D j)) σ) (D + 1) 0 σ = some mc
    have : ∀ n j σ, 0 < n → ∃ mc, fldS (fun j σ => fsr P D f a b lo w (k + 1) (fv pr k (so D j)) σ) n j σ = some mc := fun n => by
      induction n with
      | zero => intro j σ h; omega
      | succ n ih =>
        intro j σ _
        rw [fldS_s]
        by_cases hn : 0 < n
        · exact ih _ _ hn
        · have : n = 0 := by omega
          subst this
          exact fsr_some
    exact this _ _ _ (by omega)
theorem bup_bS {σ : SG} {p : Nat} {pr : Nat → Nat} (h : bS σ) (hp : p ≤ 1000) : bS (bup σ p pr) := by
  by_cases hd : dead σ p
  · rw [bup_dead hd]
    exact h
  · rw [bup_live hd]
    exact hp
theorem fsr_bS : ∀ {w k : Nat} {pr : Nat → Nat} {σ : SG}, k + w ≤ 4 → bS σ → bS (fsr P D f a b lo w k pr σ)
  | 0, k, pr, σ, hk, h => bup_bS h (by have := rps_le (P := P) (D := D) (f := f) (a := a) (b := b) (lo := lo) pr f k; omega)
  | w + 1, k, pr, σ, hk, h => by
    show bS (fldS (fun j σ => fsr P D f a b lo w (k + 1) (fv pr k (so D j)) σ) (D + 1) 0 σ)
    have : ∀ n j σ, bS σ → bS (fldS (fun j σ => fsr P D f a b lo w (k + 1) (fv pr k (so D j)) σ) n j σ) := fun n => by
      induction n with
      | zero => intro j σ h; exact h
      | succ n ih =>
        intro j σ h
        rw [fldS_s]
        exact ih _ _ (fsr_bS (by omega) h)
    exact this _ _ _ h
theorem tq_n {k : Nat} (h : k < 4) : tq (64 + 4 * k) := by
  unfold tq
  omega
theorem c_most {I : sm_I} (hb : bdf P D f a b) (hF : cFo P D f a b I) {q : Nat} (hq : tq q) {g : Nat → Nat} (hg : bdg g) (hT : cTa q g I) {e : Nat} (he : e < D) (d n : Nat) (J : sm_J) (K : Option Value → sm_H → Prop) :
    sm_Ok d 15 0 [.ref 34, .ref q, .int (nI e)] [] (sm_SH n, I, J) K ↔ K (some (.int (nI (min (g (40 + e)) (g (24 + a e)))))) (sm_SH n, I, J) := by
  obtain ⟨k1, k2, k3, k4, k5, k6, k7⟩ := tq_k hq
  have hD := hb.2.1
  obtain ⟨a8, b8⟩ := bd_ab hb e he
  have E1 := (hF.2.2.2.2 e he).1
  have s1 := hT.2.1 e (by omega)
  have s2 := (hT.1 (a e) a8).1
  have g1 := hg (40 + e) (by omega) (by omega) (by omega)
  have g2 := hg (24 + a e) (by omega) (by omega) (by omega)
  rw [top_s (by omega)] at g1
  rw [top_p (by omega)] at g2
  have q1 : (q + 1 = 0) = False := eq_false (by omega)
  have q3 : (q + 3 = 0) = False := eq_false (by omega)
  rw [← nI_min (show g (40 + e) < 2 ^ 31 by omega) (show g (24 + a e) < 2 ^ 31 by omega)]
  simp only [z15_0, z15_1, z15_4, z15_5, z15_6, z15_7, z15_10, z15_11, z15_14, z15_15, z15_16, z15_17, z15_20, sm_cti, sm_ctr, sm_ctn, sm_nbi, Option.toList_some, Option.toList_none, List.cons_append, List.nil_append, ne_eq, reduceCtorEq, not_false_eq_true, Nat.reduceLeDiff, kc34, kc38, rf34_3, k1, k2, k4, k5, k7, q1, q3, E1, s1, s2, y_inN (show e < 12 by omega) (by decide), nI_clamp (show e < 2 ^ 31 by omega), y_inN a8 (by decide), nI_clamp (show a e < 2 ^ 31 by omega), if_true, if_false, not_true_eq_false, not_false_eq_true, and_true, true_and, and_false, false_and, and_self, or_true, true_or, or_false, false_or, reduceIte, iff_self, Int32.add_zero, y_10, Classical.not_not]
/-- the last evening -/
theorem c_end {I : sm_I} (hb : bdf P D f a b) (hF : cFo P D f a b I) (hL : cLw lo I) {k : Nat} (hk : k < 4) {pr : Nat → Nat} (hT : cTa (64 + 4 * k) (rnt P D f a b lo pr f k) I) {e : Nat} (he : e < D ∨ e = 12) (ht : ∀ j, j < k + 1 → I 63 j = nI (fv pr k e j)) {σ : SG} (hσ : bS σ) (hm : I 60 1 = mo σ) (hr : bR (k + 1) 61 σ I) (d n : Nat) (J : sm_J) (K : Option Value → sm_H → Prop)
    (hK : ∀ I', (∀ x c, ¬ (x = 29 ∨ x = 30 ∨ (x = 60 ∧ c = 1) ∨ x = 61) → I' x c = I x c) → I' 60 1 = mo (bup σ (rps P D f a b lo (fv pr k e) f (k + 1)) (fv pr k e)) → bR (k + 1) 61 (bup σ (rps P D f a b lo (fv pr k e) f (k + 1)) (fv pr k e)) I' → K none (sm_SH n, I', J)) :
    sm_Ok (d + 5) 60 0 [.ref 60, .ref (64 + 4 * k), .int (nI e), .int (nI (k + 1)), .int (nI (rps P D f a b lo pr f k)), .null, .null] [] (sm_SH n, I, J) K := by
  have hD := hb.2.1
  have hg : bdg f := fun k k1 k2 k3 => hb.2.2.1 k k2
  have hgk : bdg (rnt P D f a b lo pr f k) := rnt_bd hb pr hg k
  have hp := rps_le (P := P) (D := D) (f := f) (a := a) (b := b) (lo := lo) pr f k
  obtain ⟨py1, py2, py3⟩ := pay_le (P := P) (D := D) (f := f) (a := a) (b := b) lo (rnt P D f a b lo pr f k) e
  have hrs := (rn_s (P := P) (D := D) (f := f) (a := a) (b := b) (lo := lo) (pr := pr) (k := k) (e := e)).2
  obtain ⟨k1, k2, k3, k4, k5, k6, k7⟩ := tq_k (tq_n hk)
  -- what is done once all is known
  have tail : ∀ (I1 : sm_I) (x6 : Value), (∀ x c, ¬ (x = 29 ∨ x = 30) → I1 x c = I x c) → sm_Ok (d + 5) 60 85 [.ref 60, .ref (64 + 4 * k), .int (nI e), .int (nI (k + 1)), .int (nI (rps P D f a b lo pr f k)), .int (nI (rps P D f a b lo (fv pr k e) f (k + 1))), x6] [] (sm_SH n, I1, J) K := fun I1 x6 w1 => by
    have m1 : I1 60 1 = mo σ := by rw [w1 _ _ (by omega), hm]
    by_cases hd : dead σ (rps P D f a b lo (fv pr k e) f (k + 1))
    · have hd' : nI (rps P D f a b lo (fv pr k e) f (k + 1)) ≤ mo σ := (mo_le hσ (by omega)).mpr hd
      rw [bup_dead hd] at hK
      simp only [z60_85, z60_87, z60_88, z60_91, z60_114, sm_cti, sm_ctr, sm_ctn, sm_nbi, Option.toList_some, Option.toList_none, List.cons_append, List.nil_append, ne_eq, reduceCtorEq, not_false_eq_true, Nat.reduceLeDiff, kc60, m1, hd', if_true, if_false, not_true_eq_false, not_false_eq_true, and_true, true_and, and_false, false_and, and_self, or_true, true_or, or_false, false_or, reduceIte, iff_self, Int32.add_zero, y_10, Classical.not_not]
      refine hK I1 (fun x c hx => w1 x c (by omega)) m1 ?_
      cases σ with
      | none => exact trivial
      | some mc => exact fun j hj => by rw [w1 _ _ (by omega)]; exact hr j hj
    · have hd' : ¬ nI (rps P D f a b lo (fv pr k e) f (k + 1)) ≤ mo σ := fun z => hd ((mo_le hσ (by omega)).mp z)
      rw [bup_live hd] at hK
      have c0 : (0 : Int32).toNatClampNeg = 0 := by decide
      have z0 : ¬ (0 : Int32) < 0 := by decide
      have zt : ¬ nI (k + 1) < 0 := nI_pos (by omega)
      have l4 : (0 + (k + 1) ≤ 4) = True := eq_true (by omega)
      have g1 : (26 ≤ 63) = True := by decide
      have g2 : (26 ≤ 61) = True := by decide
      simp only [z60_85, z60_87, z60_88, z60_91, z60_94, z60_95, z60_97, z60_100, z60_101, z60_104, z60_105, z60_106, z60_109, z60_110, z60_111, z60_114, sm_cti, sm_ctr, sm_ctn, sm_nbi, Option.toList_some, Option.toList_none, List.cons_append, List.nil_append, ne_eq, reduceCtorEq, not_false_eq_true, Nat.reduceLeDiff, kc60, kc61, kc63, rf60_0, rf60_4, m1, hd', c0, z0, zt, l4, g1, g2, nI_clamp (show k + 1 < 2 ^ 31 by omega), if_true, if_false, not_true_eq_false, not_false_eq_true, and_true, true_and, and_false, false_and, and_self, or_true, true_or, or_false, false_or, reduceIte, iff_self, Int32.add_zero, y_10, Classical.not_not]
      refine hK _ (fun x c hx => ?_) ?_ (fun j hj => ?_)
      · rw [cI_o _ _ (by omega), uI_o _ _ (by omega), w1 _ _ (by omega)]
      · rw [cI_o _ _ (by omega), uI_s]
        rfl
      · rw [cI_0 _ _ _ _ _ hj, uI_q _ _ (by omega), w1 _ _ (by omega), ht j hj]
  rw [z60_0]
  by_cases heD : e < D
  · have hx := y_idx_of heD (show D < 2 ^ 31 by omega)
    obtain ⟨a8, b8⟩ := bd_ab hb e heD
    have g1 := hgk (40 + e) (by omega) (by omega) (by omega)
    have g2 := hgk (24 + a e) (by omega) (by omega) (by omega)
    rw [top_s (by omega)] at g1
    rw [top_p (by omega)] at g2
    have g3 := hgk (32 + a e) (by omega) (by omega) (by omega)
    rw [top_m (by omega)] at g3
    have ea : nI (rps P D f a b lo pr f k) + nI (min (rnt P D f a b lo pr f k (40 + e)) (rnt P D f a b lo pr f k (24 + a e))) = nI (rps P D f a b lo pr f k + min (rnt P D f a b lo pr f k (40 + e)) (rnt P D f a b lo pr f k (24 + a e))) := nI_add _ _
    by_cases hd : dead σ (rps P D f a b lo pr f k + min (rnt P D f a b lo pr f k (40 + e)) (rnt P D f a b lo pr f k (24 + a e)))
    · have hd' : ¬ mo σ < nI (rps P D f a b lo pr f k + min (rnt P D f a b lo pr f k (40 + e)) (rnt P D f a b lo pr f k (24 + a e))) := fun z => (mo_lt hσ (by omega)).mp z hd
      have hd2 : dead σ (rps P D f a b lo (fv pr k e) f (k + 1)) := by
        rw [hrs]
        have := py2 heD
        exact dead_le hd (by omega)
      rw [bup_dead hd2] at hK
      simp only [z60_2, z60_4, z60_5, z60_8, z60_9, z60_12, z60_15, z60_17, z60_18, z60_21, z60_22, z60_23, z60_26, z60_27, z60_28, z60_31, z60_34, sm_cti, sm_ctr, sm_ctn, sm_nbi, Option.toList_some, Option.toList_none, List.cons_append, List.nil_append, ne_eq, reduceCtorEq, not_false_eq_true, Nat.reduceLeDiff, kc60, rc34, rf60_2, y_isDebt, hF.2.1, hx, y_bit, c_most hb hF (tq_n hk) hgk hT heD, ea, hm, hd', if_true, if_false, not_true_eq_false, not_false_eq_true, and_true, true_and, and_false, false_and, and_self, or_true, true_or, or_false, false_or, reduceIte, iff_self, Int32.add_zero, y_10, Classical.not_not]
      exact hK I (fun _ _ _ => rfl) hm hr
    · have hd' : mo σ < nI (rps P D f a b lo pr f k + min (rnt P D f a b lo pr f k (40 + e)) (rnt P D f a b lo pr f k (24 + a e))) := (mo_lt hσ (by omega)).mpr hd
      have E1 := (hF.2.2.2.2 e heD).1
      have im := (hT.1 (a e) a8).2
      have is := hT.2.1 e (by omega)
      have ie := hT.2.2
      have q2 : (64 + 4 * k + 2 = 0) = False := eq_false (by omega)
      have q3 : (64 + 4 * k + 3 = 0) = False := eq_false (by omega)
      simp only [z60_2, z60_4, z60_5, z60_8, z60_9, z60_12, z60_15, z60_17, z60_18, z60_21, z60_22, z60_23, z60_26, z60_27, z60_28, z60_31, z60_35, z60_36, z60_39, z60_40, z60_43, z60_46, z60_47, z60_48, z60_49, z60_51, z60_53, z60_54, z60_57, z60_58, z60_59, z60_60, z60_63, z60_64, z60_66, z60_67, z60_70, z60_71, z60_72, z60_73, z60_76, sm_cti, sm_ctr, sm_ctn, sm_nbi, Option.toList_some, Option.toList_none, List.cons_append, List.nil_append, ne_eq, reduceCtorEq, not_false_eq_true, Nat.reduceLeDiff, kc34, kc38, kc60, rc34, rf60_2, rf34_3, k1, k3, k4, k6, k7, q2, q3, y_isDebt, hF.2.1, hx, y_bit, c_most hb hF (tq_n hk) hgk hT heD, ea, hm, hd', E1, im, is, ie, y_inN (show e < 12 by omega) (by decide), nI_clamp (show e < 2 ^ 31 by omega), y_inN a8 (by decide), nI_clamp (show a e < 2 ^ 31 by omega), if_true, if_false, not_true_eq_false, not_false_eq_true, and_true, true_and, and_false, false_and, and_self, or_true, true_or, or_false, false_or, reduceIte, iff_self, Int32.add_zero, y_10, Classical.not_not]
      refine c_movedTo hb hF hL heD g3 _ _ (d + 1) n J _ (fun I1 w1 => ?_)
      have F1 : cFo P D f a b I1 := cFo_f hF (fun x c h1 h2 => w1 x c (by omega))
      have T1 : cTa (64 + 4 * k) (rnt P D f a b lo pr f k) I1 := cTa_f hT (fun x c h1 h2 => w1 x c (by omega))
      have hpay : (if mvt P f a b lo e (rnt P D f a b lo pr f k (32 + a e)) (rnt P D f a b lo pr f k (40 + e)) (rnt P D f a b lo pr f k 53) < 20 then 0 else min (mvt P f a b lo e (rnt P D f a b lo pr f k (32 + a e)) (rnt P D f a b lo pr f k (40 + e)) (rnt P D f a b lo pr f k 53) / 10) (min (rnt P D f a b lo pr f k (40 + e)) (rnt P D f a b lo pr f k (24 + a e)))) = pay P D f a b lo (rnt P D f a b lo pr f k) e := by
        unfold pay
        rw [if_pos heD]
      have ea2 : nI (rps P D f a b lo pr f k) + nI (pay P D f a b lo (rnt P D f a b lo pr f k) e) = nI (rps P D f a b lo (fv pr k e) f (k + 1)) := by
        rw [hrs]
        exact nI_add _ _
      have mvl : mvt P f a b lo e (rnt P D f a b lo pr f k (32 + a e)) (rnt P D f a b lo pr f k (40 + e)) (rnt P D f a b lo pr f k 53) ≤ 99 := Nat.min_le_left _ _
      simp only [z60_79, z60_82, z60_83, sm_cti, sm_ctr, sm_ctn, sm_nbi, Option.toList_some, Option.toList_none, List.cons_append, List.nil_append, ne_eq, reduceCtorEq, not_false_eq_true, Nat.reduceLeDiff, rc34, c_payment hb F1 (tq_n hk) hgk T1 heD mvl, hpay, ea2, if_true, if_false, not_true_eq_false, not_false_eq_true, and_true, true_and, and_false, false_and, and_self, or_true, true_or, or_false, false_or, reduceIte, iff_self, Int32.add_zero, y_10, Classical.not_not]
      exact tail I1 _ w1
  · have hx : ¬ (0 ≤ nI e ∧ nI e < nI D) := fun z => heD ((nI_ltI (by omega) (by omega)).mp z.2)
    have hp0 : pay P D f a b lo (rnt P D f a b lo pr f k) e = 0 := by
      unfold pay
      rw [if_neg heD]
    rw [hp0, Nat.add_zero] at hrs
    have ht := tail I .null (fun _ _ _ => rfl)
    rw [hrs] at ht
    simp only [z60_2, z60_4, z60_5, z60_8, z60_9, z60_12, sm_cti, sm_ctr, sm_ctn, sm_nbi, Option.toList_some, Option.toList_none, List.cons_append, List.nil_append, ne_eq, reduceCtorEq, not_false_eq_true, Nat.reduceLeDiff, kc60, rc34, rf60_2, y_isDebt, hF.2.1, hx, y_bit, if_true, if_false, not_true_eq_false, not_false_eq_true, and_true, true_and, and_false, false_and, and_self, or_true, true_or, or_false, false_or, reduceIte, iff_self, Int32.add_zero, y_10, Classical.not_not]
    exact ht
end
