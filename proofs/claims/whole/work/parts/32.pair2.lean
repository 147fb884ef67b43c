/-! both answer alike: shelves, on -/
theorem nI_sub {a b : Nat} (h : b ≤ a) : nI a - nI b = nI (a - b) := by
  have e : nI (a - b) + nI b = nI a := by rw [nI_add, Nat.sub_add_cancel h]
  rw [← e, Int32.add_sub_cancel]
theorem y_pl {i : Int32} {m : Nat} (hm : m ≤ 60) : (0 ≤ i ∧ i ≤ nI m ∧ 1 ≤ nI m - i) ↔ (0 ≤ i ∧ i < nI m) := by
  constructor
  · rintro ⟨h1, h2, h3⟩
    obtain ⟨k, hk, rfl⟩ := nI_of2 (M := nI m) (n := m) (nI_toInt (by omega)) (Int32.not_lt.mpr h1) h2
    rw [nI_sub hk] at h3
    have h4 : 1 ≤ m - k := (nI_leI (a := 1) (b := m - k) (by decide) (by omega)).mp h3
    exact ⟨h1, nI_lt (by omega) (by omega)⟩
  · intro h
    obtain ⟨k, hk, rfl⟩ := y_idx (show m < 2 ^ 31 by omega) h
    refine ⟨h.1, nI_le (by omega) (by omega), ?_⟩
    rw [nI_sub (by omega)]
    exact nI_le (a := 1) (b := m - k) (by omega) (by omega)
theorem y_why0 {I : sm_I} {s : Nat} {i : Int32} (h1 : I (91 + 2 * s) 1 = -1) (h2 : I (91 + 2 * s) 2 = -1) : y_why I s i = -11 := by
  unfold y_why
  rw [h1, h2]
  rfl
theorem y_why1 {I : sm_I} {s b : Nat} {i : Int32} (hb : b < 50) (h1 : I (91 + 2 * s) 1 = nI b) (h2 : I (91 + 2 * s) 2 = -1) : y_why I s i = -12 := by
  have h0 : (0 : Int32) ≤ nI b := nI_pos' (by omega)
  unfold y_why
  rw [h1, h2, if_neg (fun z => z.1 h0), if_pos rfl]
theorem y_nm1 {t : Nat} (h : t < 2 ^ 31) : ¬ nI t = -1 := fun z => by
  have := nI_pos h
  rw [z] at this
  exact this (by decide)
theorem y_why2 {I : sm_I} {s t m : Nat} {i : Int32} (ht : t < 5) (hm : m ≤ 60) (h2 : I (91 + 2 * s) 2 = nI t) (h3 : I (91 + 2 * s) 3 = nI m) : y_why I s i = if 0 ≤ i ∧ i < nI m then 0 else -13 := by
  have h0 := y_nm1 (t := t) (by omega)
  have e : (0 ≤ i ∧ i ≤ nI m ∧ 1 ≤ nI m - i) = (0 ≤ i ∧ i < nI m) := propext (y_pl hm)
  unfold y_why
  rw [h2, h3, if_neg (fun z => h0 z.2), if_neg h0]
  simp only [e]
theorem y_as01 {t : Nat} (v : Int64) (ht : t < 2) : ∃ w : Int32, y_as (nI t) v = w.toInt64 := by
  rcases (show t = 0 ∨ t = 1 by omega) with rfl | rfl
  · exact ⟨v.toInt32.toInt8.toInt32, rfl⟩
  · exact ⟨v.toInt32.toInt16.toInt32, rfl⟩
theorem pr_put {n B : Nat} {I : sm_I} {J : sm_J} (hB : B ≤ 50) (hS : iv_sh B I J) (x i : Int32) (v : Int64) : pr n I J 121 [.ref 26, .int x, .int i, .long v, .null, .null] 235 [.ref 103, .int x, .int i, .long v, .null, .null] (fun I2 J2 => I2 = I ∧ iv_sh B I2 J2) := by
  by_cases hx : 0 ≤ x ∧ x ≤ 5
  · obtain ⟨s, hs, rfl⟩ := y_idx6 hx
    have hcl := nI_clamp (show s < 2 ^ 31 by omega)
    obtain ⟨h1, h2⟩ := hS s hs
    have none' : ∀ w : Int32, ¬ w = 0 → y_why I s i = w → (if 0 ≤ nI s ∧ nI s ≤ 5 then (if I 126 (nI s).toNatClampNeg < 0 then -11 else if I 126 (nI s).toNatClampNeg < 50 then -12 else if 0 ≤ i ∧ i < I 127 (nI s).toNatClampNeg then 0 else -13) else -1) = w → pr n I J 121 [.ref 26, .int (nI s), .int i, .long v, .null, .null] 235 [.ref 103, .int (nI s), .int i, .long v, .null, .null] (fun I2 J2 => I2 = I ∧ iv_sh B I2 J2) := by
      intro w hw h3 h4
      refine ⟨.int w, I, J, I, J, fun d K => ?_, fun d K => m_putB _ n I J K v hw h4, rfl, hS⟩
      rw [y_put _ n I J K hs (fun z => absurd (h3.symm.trans z) hw) v, if_neg (fun z => absurd (h3.symm.trans z) hw), h3]
    rcases h1 with ⟨a1, a2, a3⟩ | ⟨b, hb, a1, a2, a3⟩ | ⟨t, m, ht, hm, a1, a2, a3, a4, a5, a6⟩
    · refine none' (-11) (by decide) (y_why0 a2 a3) ?_
      rw [if_pos hx, hcl, a1, if_pos (by decide)]
    · refine none' (-12) (by decide) (y_why1 (by omega) a2 a3) ?_
      rw [if_pos hx, hcl, a1, if_neg (nI_pos (by omega)), if_pos (show nI b < 50 from nI_lt (a := b) (b := 50) (by omega) (by decide))]
    · have n1 : ¬ nI (50 + t) < 0 := nI_pos (by omega)
      have n2 : ¬ nI (50 + t) < 50 := nI_nlt (b := 50) (by omega) (by omega)
      by_cases hi : 0 ≤ i ∧ i < nI m
      · obtain ⟨k, hk, rfl⟩ := y_idx (show m < 2 ^ 31 by omega) hi
        have hk2 := nI_clamp (show k < 2 ^ 31 by omega)
        have hw : y_why I s (nI k) = 0 := by rw [y_why2 ht hm a3 a4, if_pos hi]
        have e5 : nI (50 + t) - 50 = nI t := by rw [show (50 : Int32) = nI 50 from rfl, nI_sub (by omega), Nat.add_sub_cancel_left]
        refine ⟨.int 1, I, sm_uJ J (92 + 2 * s) k (y_as (nI t) v), I, sm_uJ (sm_uJ J (92 + 2 * s) k (y_as (nI t) v)) 128 (60 * s + k) (y_as (nI t) v), fun d K => ?_, fun d K => ?_, rfl, ?_⟩
        · rw [y_put _ n I J K hs (fun _ => ⟨k, by omega, rfl⟩) v, if_pos hw, a3, hk2]
        · rw [m_put _ n I _ K hs hk hm (by rw [a1]; exact n1) (by rw [a1]; exact n2) a5 v, a1, e5]
        · refine iv_sh_one (s := s) hS (fun e he hne => ⟨rfl, rfl, fun c => rfl⟩) (fun e he hne j hj => ⟨?_, ?_⟩) (fun _ => ⟨?_, fun j hj => ?_⟩)
          · rw [uJ_o _ _ (by omega), uJ_o _ _ (by omega)]
          · rw [uJ_o _ _ (by omega), uJ_o _ _ (by omega)]
          · refine Or.inr (Or.inr ⟨t, m, ht, hm, a1, a2, a3, a4, a5, fun h j hj => ?_⟩)
            rw [uJ_o _ _ (by omega)]
            by_cases e : j = k
            · subst e
              rw [uJ_s]
              exact y_as01 v h
            · rw [uJ_o _ _ (by omega)]
              exact a6 h j hj
          · rw [uJ_o _ _ (by omega)]
            by_cases e : j = k
            · subst e
              rw [uJ_s, uJ_s]
            · rw [uJ_o _ _ (by omega), uJ_o _ _ (by omega), uJ_o _ _ (by omega), h2 j hj]
      · refine none' (-13) (by decide) (by rw [y_why2 ht hm a3 a4, if_neg hi]) ?_
        rw [if_pos hx, hcl, a1, if_neg n1, if_neg n2, a5, if_neg hi]
  · refine ⟨.int (-1), I, J, I, J, fun d K => y_putB _ n I J K hx v, fun d K => m_putB _ n I J K v (by decide) (by rw [if_neg hx]), rfl, hS⟩
theorem pr_element {n B : Nat} {I : sm_I} {J : sm_J} (hB : B ≤ 50) (hS : iv_sh B I J) (x i : Int32) : pr n I J 122 [.ref 26, .int x, .int i] 236 [.ref 103, .int x, .int i] (fun I2 J2 => I2 = I ∧ J2 = J) := by
  by_cases hx : 0 ≤ x ∧ x ≤ 5
  · obtain ⟨s, hs, rfl⟩ := y_idx6 hx
    have hcl := nI_clamp (show s < 2 ^ 31 by omega)
    obtain ⟨h1, h2⟩ := hS s hs
    have none' : ∀ w : Int32, ¬ w = 0 → y_why I s i = w → (if 0 ≤ nI s ∧ nI s ≤ 5 then (if I 126 (nI s).toNatClampNeg < 0 then -11 else if I 126 (nI s).toNatClampNeg < 50 then -12 else if 0 ≤ i ∧ i < I 127 (nI s).toNatClampNeg then 0 else -13) else -1) = w → pr n I J 122 [.ref 26, .int (nI s), .int i] 236 [.ref 103, .int (nI s), .int i] (fun I2 J2 => I2 = I ∧ J2 = J) := by
      intro w hw h3 h4
      refine ⟨.long (-9223372036854775808), I, J, I, J, fun d K => ?_, fun d K => m_elementB _ n I J K hw h4, rfl, rfl⟩
      rw [y_element _ n I J K hs (fun z => absurd (h3.symm.trans z) hw), if_neg (fun z => absurd (h3.symm.trans z) hw)]
    rcases h1 with ⟨a1, a2, a3⟩ | ⟨b, hb, a1, a2, a3⟩ | ⟨t, m, ht, hm, a1, a2, a3, a4, a5, a6⟩
    · refine none' (-11) (by decide) (y_why0 a2 a3) ?_
      rw [if_pos hx, hcl, a1, if_pos (by decide)]
    · refine none' (-12) (by decide) (y_why1 (by omega) a2 a3) ?_
      rw [if_pos hx, hcl, a1, if_neg (nI_pos (by omega)), if_pos (show nI b < 50 from nI_lt (a := b) (b := 50) (by omega) (by decide))]
    · have n1 : ¬ nI (50 + t) < 0 := nI_pos (by omega)
      have n2 : ¬ nI (50 + t) < 50 := nI_nlt (b := 50) (by omega) (by omega)
      by_cases hi : 0 ≤ i ∧ i < nI m
      · obtain ⟨k, hk, rfl⟩ := y_idx (show m < 2 ^ 31 by omega) hi
        have hk2 := nI_clamp (show k < 2 ^ 31 by omega)
        have hw : y_why I s (nI k) = 0 := by rw [y_why2 ht hm a3 a4, if_pos hi]
        refine ⟨.long (J (92 + 2 * s) k), I, J, I, J, fun d K => ?_, fun d K => ?_, rfl, rfl⟩
        · rw [y_element _ n I J K hs (fun _ => ⟨k, by omega, rfl⟩), if_pos hw, hk2]
        · rw [m_element _ n I _ K hs hk hm (by rw [a1]; exact n1) (by rw [a1]; exact n2) a5, h2 k (by omega)]
      · refine none' (-13) (by decide) (by rw [y_why2 ht hm a3 a4, if_neg hi]) ?_
        rw [if_pos hx, hcl, a1, if_neg n1, if_neg n2, a5, if_neg hi]
  · refine ⟨.long (-9223372036854775808), I, J, I, J, fun d K => y_elementB _ n I J K hx, fun d K => m_elementB _ n I J K (w := -1) (by decide) (by rw [if_neg hx]), rfl, rfl⟩
theorem pr_taken {n B : Nat} {xs : Nat → Int32} {I : sm_I} {J : sm_J} (hR : iv_ro xs I) (hT : iv_tu B I) (hS : iv_sh B I J) (x t : Int32) : pr n I J 124 [.ref 26, .int x, .int t, .null] 238 [.ref 103, .int x, .int t, .null] (fun I2 J2 => I2 = I ∧ J2 = J) := by
  obtain ⟨hB, t1, t2, t3, -⟩ := hT
  by_cases hx : (0 ≤ x ∧ x ≤ 5) ∧ (0 ≤ t ∧ t ≤ 7)
  · obtain ⟨hx, ht⟩ := hx
    obtain ⟨s, hs, rfl⟩ := y_idx6 hx
    obtain ⟨h1, h2⟩ := hS s hs
    rcases h1 with ⟨a1, a2, a3⟩ | ⟨b, hb, a1, a2, a3⟩ | ⟨q, m, hq, hm, a1, a2, a3, a4, a5, a6⟩
    · refine ⟨.int (-11), I, J, I, J, fun d K => ?_, fun d K => ?_, rfl, rfl⟩
      · rw [y_takenN _ n I J K hs ht a2, a3, if_pos rfl]
      · rw [m_takenN _ n I J K hs ht (by rw [a1]; decide), a1, if_pos (by decide)]
    · obtain ⟨k, hk, b1, b2⟩ := t3 b hb
      refine ⟨_, I, J, I, J, fun d K => y_takenT hR _ n J K t1 hB hb hk b1 hs ht a2, fun d K => m_takenT _ n J K (by omega) hk b2 hs ht a1, rfl, rfl⟩
    · have n1 : ¬ nI (50 + q) < 0 := nI_pos (by omega)
      have n2 : (50 : Int32) ≤ nI (50 + q) := nI_le (a := 50) (by omega) (by omega)
      refine ⟨.int (-12), I, J, I, J, fun d K => ?_, fun d K => ?_, rfl, rfl⟩
      · rw [y_takenN _ n I J K hs ht a2, a3, if_neg (y_nm1 (by omega))]
      · rw [m_takenN _ n I J K hs ht (by rw [a1]; exact Or.inr n2), a1, if_neg n1]
  · exact ⟨.int (-1), I, J, I, J, fun d K => y_takenB _ n I J K hx, fun d K => m_takenB _ n I J K hx, rfl, rfl⟩
