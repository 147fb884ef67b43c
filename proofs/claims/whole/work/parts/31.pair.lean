/-! both answer alike: shelves -/
/-- both come to an end, with the same answer, and Q holds then -/
def pr (n : Nat) (I : sm_I) (J : sm_J) (cm : Nat) (ca : List Value) (mm : Nat) (ma : List Value) (Q : sm_I → sm_J → Prop) : Prop :=
  ∃ (r : Value) (I1 : sm_I) (J1 : sm_J) (I2 : sm_I) (J2 : sm_J), (∀ (d : Nat) (K : Option Value → sm_H → Prop), sm_Ok (d + 200) cm 0 ca [] (sm_SH n, I, J) K ↔ K (some r) (sm_SH n, I1, J1)) ∧ (∀ (d : Nat) (K : Option Value → sm_H → Prop), sm_Ok (d + 200) mm 0 ma [] (sm_SH n, I1, J1) K ↔ K (some r) (sm_SH n, I2, J2)) ∧ Q I2 J2
theorem iv_tu_ag {B g : Nat} {I I' : sm_I} (h : iv_tu B I) (ha : ag g I I') (hg : g ≠ 7) : iv_tu B I' := by
  obtain ⟨h1, h2, h3, h4, r, h5, h6, h7, h8⟩ := h
  have e : ∀ q b, rg q b = 7 → I' q b = I q b := fun q b hr => ha q b (by rw [hr]; decide) (by rw [hr]; exact fun z => hg z.symm)
  refine ⟨h1, by rw [e 87 1 rfl, h2], by rw [e 103 38 rfl, h3], fun b hb => ?_, r, h5, by rw [e 87 2 rfl, h6], by rw [e 103 41 rfl, h7], fun j hj => ?_⟩
  · obtain ⟨k, k1, k2, k3⟩ := h4 b hb
    exact ⟨k, k1, by rw [e 89 b rfl, k2], by rw [e 124 b rfl, k3]⟩
  · rw [e 88 j rfl, e 125 j rfl, h8 j hj]
theorem rg_sh {s : Nat} (hs : s < 6) (b : Nat) : rg (91 + 2 * s) b = 8 := by
  rcases (show s = 0 ∨ s = 1 ∨ s = 2 ∨ s = 3 ∨ s = 4 ∨ s = 5 by omega) with rfl | rfl | rfl | rfl | rfl | rfl <;> rfl
theorem iv_sh_ag {B B' g : Nat} {I I' : sm_I} {J J' : sm_J} (h : iv_sh B I J) (hB : B ≤ B') (ha : ag g I I') (hj : agJ J J') (hg : g ≠ 8) : iv_sh B' I' J' := by
  have e : ∀ q b, rg q b = 8 → I' q b = I q b := fun q b hr => ha q b (by rw [hr]; decide) (by rw [hr]; exact fun z => hg z.symm)
  intro s hs
  obtain ⟨h1, h2⟩ := h s hs
  refine ⟨?_, fun j hjj => by rw [hj _ _ (by omega), hj _ _ (by omega), h2 j hjj]⟩
  unfold shl at h1 ⊢
  rw [e 126 s rfl, e 127 s rfl, e _ _ (rg_sh hs 1), e _ _ (rg_sh hs 2), e _ _ (rg_sh hs 3)]
  rcases h1 with h | ⟨b, hb, h⟩ | ⟨t, m, h3, h4, h5, h6, h7, h8, h9, h10⟩
  · exact Or.inl h
  · exact Or.inr (Or.inl ⟨b, by omega, h⟩)
  · exact Or.inr (Or.inr ⟨t, m, h3, h4, h5, h6, h7, h8, h9, fun ht j hjj => by rw [hj _ _ (by omega)]; exact h10 ht j hjj⟩)
/-- one shelf and its row may change alone -/
theorem iv_sh_one {B : Nat} {I I' : sm_I} {J J' : sm_J} {s : Nat} (h : iv_sh B I J) (hi : ∀ e, e < 6 → e ≠ s → I' 126 e = I 126 e ∧ I' 127 e = I 127 e ∧ ∀ b, I' (91 + 2 * e) b = I (91 + 2 * e) b) (hj : ∀ e, e < 6 → e ≠ s → ∀ j, j < 60 → J' (92 + 2 * e) j = J (92 + 2 * e) j ∧ J' 128 (60 * e + j) = J 128 (60 * e + j)) (hn : s < 6 → shl B I' J' s ∧ ∀ j, j < 60 → J' (92 + 2 * s) j = J' 128 (60 * s + j)) : iv_sh B I' J' := by
  intro e he
  by_cases hs : e = s
  · subst hs
    exact hn he
  · obtain ⟨h1, h2⟩ := h e he
    obtain ⟨i1, i2, i3⟩ := hi e he hs
    refine ⟨?_, fun j hjj => by rw [(hj e he hs j hjj).1, (hj e he hs j hjj).2, h2 j hjj]⟩
    unfold shl at h1 ⊢
    rw [i1, i2, i3 1, i3 2, i3 3]
    rcases h1 with h | h | ⟨t, m, h3, h4, h5, h6, h7, h8, h9, h10⟩
    · exact Or.inl h
    · exact Or.inr (Or.inl h)
    · exact Or.inr (Or.inr ⟨t, m, h3, h4, h5, h6, h7, h8, h9, fun ht j hjj => by rw [(hj e he hs j hjj).1]; exact h10 ht j hjj⟩)
theorem pr_count {n P D B : Nat} {I : sm_I} {J : sm_J} (hF : iv_fo P D I) (hC : iv_ch P I) (hA : iv_ta I) (hT : iv_tu B I) (w : Int32) : pr n I J 125 [.ref 26, .int w] 239 [.ref 103, .int w] (fun I2 J2 => I2 = I ∧ J2 = J) := by
  obtain ⟨⟨-, -, f1, f2, f3, f4⟩, -⟩ := hF
  obtain ⟨c, n1, -, -, c1, -, c2, -⟩ := hC
  obtain ⟨a, -, a1, a2, -⟩ := hA
  obtain ⟨-, t1, t2, -, r, -, t3, t4, -⟩ := hT
  refine ⟨_, I, J, I, J, fun d K => y_count _ n I J K w, fun d K => ?_, rfl, rfl⟩
  rw [m_count, f1, f2, f3, f4, c1, c2, a1, a2, t1, t2, t3, t4]
theorem pr_trace {n B : Nat} {I : sm_I} {J : sm_J} (hT : iv_tu B I) (x : Int32) : pr n I J 118 [.ref 26, .int x] 229 [.ref 103, .int x] (fun I2 J2 => I2 = I ∧ J2 = J) := by
  obtain ⟨-, t1, t2, -, r, hr, t3, t4, t5⟩ := hT
  refine ⟨_, I, J, I, J, fun d K => y_traceX _ n I J K t3 hr x, fun d K => ?_, rfl, rfl⟩
  rw [m_trace _ n I J K t4 hr x]
  by_cases h : 0 ≤ x ∧ x < nI r
  · obtain ⟨k, hk, rfl⟩ := y_idx (show r < 2 ^ 31 by omega) h
    rw [if_pos h, if_pos h, nI_clamp (by omega), t5 k hk]
  · rw [if_neg h, if_neg h]
theorem pr_body {n B : Nat} {I : sm_I} {J : sm_J} (hT : iv_tu B I) (k : Int32) : pr n I J 116 [.ref 26, .int k] 221 [.ref 103, .int k] (fun I2 J2 => ag 7 I I2 ∧ J2 = J ∧ ∃ B2, B ≤ B2 ∧ iv_tu B2 I2) := by
  obtain ⟨hB, t1, t2, t3, r, hr, t4, t5, t6⟩ := id hT
  by_cases h : 0 ≤ k ∧ k ≤ 7
  · by_cases h5 : B = 50
    · refine ⟨.int (-3), I, J, I, J, fun d K => ?_, fun d K => ?_, ag_refl _ _, rfl, B, Nat.le_refl _, hT⟩
      · rw [y_bodyX _ n I J K t1 hB k, if_pos h, if_pos h5]
      · rw [m_body _ n I J K t2 hB k, if_pos h, if_pos h5]
    · refine ⟨.int (nI B), sm_uI (sm_uI I 89 B k) 87 1 (nI (B + 1)), J, sm_uI (sm_uI (sm_uI (sm_uI I 89 B k) 87 1 (nI (B + 1))) 124 B k) 103 38 (nI (B + 1)), J, fun d K => ?_, fun d K => ?_, ?_, rfl, B + 1, by omega, ?_⟩
      · rw [y_bodyX _ n I J K t1 hB k, if_pos h, if_neg h5]
      · rw [m_body _ n _ J K (B := B) (by rw [uI_o _ _ (by omega), uI_o _ _ (by omega), t2]) hB k, if_pos h, if_neg h5]
      · exact ag_u (ag_u (ag_u (ag_u (ag_refl _ _) (Or.inr rfl)) (Or.inr rfl)) (Or.inr rfl)) (Or.inr rfl)
      · refine ⟨by omega, ?_, ?_, fun b hb => ?_, r, hr, ?_, ?_, fun j hj => ?_⟩
        · simp [uI_at]
        · simp [uI_at]
        · by_cases e : b = B
          · subst e
            obtain ⟨q, hq, e2⟩ := nI_of2 (M := 7) (n := 7) (by decide) (Int32.not_lt.mpr h.1) h.2
            exact ⟨q, by omega, by simp [uI_at, e2], by simp [uI_at, e2]⟩
          · obtain ⟨q, hq, e1, e2⟩ := t3 b (by omega)
            exact ⟨q, hq, by simp [uI_at, e, e1], by simp [uI_at, e, e2]⟩
        · simp [uI_at, t4]
        · simp [uI_at, t5]
        · simp [uI_at, t6 j hj]
  · refine ⟨.int (-1), I, J, I, J, fun d K => ?_, fun d K => ?_, ag_refl _ _, rfl, B, Nat.le_refl _, hT⟩
    · rw [y_bodyX _ n I J K t1 hB k, if_neg h]
    · rw [m_body _ n I J K t2 hB k, if_neg h]
theorem y_nand {p q : Prop} (h : ¬ (p ∧ q)) : ¬ p ∨ ¬ q := by
  by_cases hp : p
  · exact Or.inr (fun hq => h ⟨hp, hq⟩)
  · exact Or.inl hp
theorem y_ne5 {b t : Nat} (h : b < 50) : ¬ nI b = nI (50 + t) ∨ 2 ^ 30 ≤ t := by
  by_cases ht : 2 ^ 30 ≤ t
  · exact Or.inr ht
  · exact Or.inl (fun z => by have := (nI_eq (a := b) (b := 50 + t) (by omega) (by omega)).mp z; omega)
theorem pr_keep {n B : Nat} {I : sm_I} {J : sm_J} (hT : iv_tu B I) (hS : iv_sh B I J) (x b : Int32) : pr n I J 119 [.ref 26, .int x, .int b] 231 [.ref 103, .int x, .int b] (fun I2 J2 => ag 8 I I2 ∧ J2 = J ∧ iv_sh B I2 J2) := by
  obtain ⟨hB, t1, t2, -⟩ := hT
  have hb1 : (b = -1 ∨ (0 ≤ b ∧ b ≤ I 103 38 - 1)) ↔ (b = -1 ∨ (0 ≤ b ∧ b < I 87 1)) := by rw [t1, t2, y_pred (show B < 2 ^ 31 by omega)]
  by_cases hx : (0 ≤ x ∧ x ≤ 5) ∧ (b = -1 ∨ (0 ≤ b ∧ b < I 87 1))
  · obtain ⟨s, hs, rfl⟩ := y_idx6 hx.1
    refine ⟨.int 1, sm_uI (sm_uI (sm_uI I (91 + 2 * s) 1 b) (91 + 2 * s) 2 (-1)) (91 + 2 * s) 3 0, J, sm_uI (sm_uI (sm_uI (sm_uI (sm_uI I (91 + 2 * s) 1 b) (91 + 2 * s) 2 (-1)) (91 + 2 * s) 3 0) 126 s b) 127 s 0, J, fun d K => ?_, fun d K => ?_, ?_, rfl, ?_⟩
    · exact y_keep _ n I J K hs hx.2
    · refine m_keep _ n _ J K hs ?_
      rw [uI_q _ _ (by omega), uI_q _ _ (by omega), uI_q _ _ (by omega)]
      exact hb1.mpr hx.2
    · exact ag_u (ag_u (ag_u (ag_u (ag_u (ag_refl _ _) (Or.inr (rg_sh hs 1))) (Or.inr (rg_sh hs 2))) (Or.inr (rg_sh hs 3))) (Or.inr rfl)) (Or.inr rfl)
    · refine iv_sh_one (s := s) hS (fun e he hne => ⟨?_, ?_, fun c => ?_⟩) (fun e he hne j hj => ⟨rfl, rfl⟩) (fun _ => ⟨?_, (hS s hs).2⟩)
      · simp [uI_at, hne, show ¬ 126 = 91 + 2 * s by omega]
      · simp [uI_at, hne, show ¬ 127 = 91 + 2 * s by omega]
      · simp [uI_at, hne, show ¬ 91 + 2 * e = 126 by omega, show ¬ 91 + 2 * e = 127 by omega, show ¬ 2 * e = 2 * s by omega]
      · have a1 : (sm_uI (sm_uI (sm_uI (sm_uI (sm_uI I (91 + 2 * s) 1 b) (91 + 2 * s) 2 (-1)) (91 + 2 * s) 3 0) 126 s b) 127 s 0) 126 s = b := by simp [uI_at]
        have a2 : (sm_uI (sm_uI (sm_uI (sm_uI (sm_uI I (91 + 2 * s) 1 b) (91 + 2 * s) 2 (-1)) (91 + 2 * s) 3 0) 126 s b) 127 s 0) (91 + 2 * s) 1 = b := by simp [uI_at, show ¬ 91 + 2 * s = 126 by omega, show ¬ 91 + 2 * s = 127 by omega]
        have a3 : (sm_uI (sm_uI (sm_uI (sm_uI (sm_uI I (91 + 2 * s) 1 b) (91 + 2 * s) 2 (-1)) (91 + 2 * s) 3 0) 126 s b) 127 s 0) (91 + 2 * s) 2 = -1 := by simp [uI_at, show ¬ 91 + 2 * s = 126 by omega, show ¬ 91 + 2 * s = 127 by omega]
        unfold shl
        rw [a1, a2, a3]
        rcases hx.2 with rfl | h
        · exact Or.inl ⟨rfl, rfl, rfl⟩
        · rw [t1] at h
          obtain ⟨k, hk, rfl⟩ := y_idx (show B < 2 ^ 31 by omega) h
          exact Or.inr (Or.inl ⟨k, hk, rfl, rfl, rfl⟩)
  · refine ⟨.int (-1), I, J, I, J, fun d K => ?_, fun d K => ?_, ag_refl _ _, rfl, hS⟩
    · exact y_keepB _ n I J K (y_nand hx)
    · refine m_keepB _ n I J K ?_
      rw [hb1]
      exact y_nand hx
theorem pr_row {n B : Nat} {I : sm_I} {J : sm_J} (hS : iv_sh B I J) (x t m : Int32) : pr n I J 120 [.ref 26, .int x, .int t, .int m] 232 [.ref 103, .int x, .int t, .int m, .null] (fun I2 J2 => ag 8 I I2 ∧ iv_sh B I2 J2) := by
  by_cases hx : (0 ≤ x ∧ x ≤ 5) ∧ (0 ≤ t ∧ t ≤ 4) ∧ m ≤ 60
  · obtain ⟨h1, ht, hm⟩ := hx
    obtain ⟨s, hs, rfl⟩ := y_idx6 h1
    by_cases h0 : 0 ≤ m
    · obtain ⟨m', hm', rfl⟩ := nI_of2 (M := 60) (n := 60) (by decide) (Int32.not_lt.mpr h0) hm
      obtain ⟨t', ht', rfl⟩ := nI_of2 (M := 4) (n := 4) (by decide) (Int32.not_lt.mpr ht.1) ht.2
      have e1 : (if 0 < (if 60 < nI m' then 60 else nI m') then (if 60 < nI m' then 60 else nI m') else 0) = nI m' := by
        have h60 : ¬ (60 : Int32) < nI m' := nI_nlt (a := 60) (b := m') hm' (by decide)
        simp only [h60, if_false]
        by_cases hz : 0 < nI m'
        · rw [if_pos hz]
        · rw [if_neg hz]
          exact Int32.le_antisymm h0 (Int32.not_lt.mp hz)
      have e2 : (50 : Int32) + nI t' = nI (50 + t') := nI_add 50 t'
      refine ⟨.int 1, sm_uI (sm_uI (sm_uI I (91 + 2 * s) 1 (-1)) (91 + 2 * s) 2 (nI t')) (91 + 2 * s) 3 (nI m'), y_fJ J (92 + 2 * s) 60 0, sm_uI (sm_uI (sm_uI (sm_uI (sm_uI I (91 + 2 * s) 1 (-1)) (91 + 2 * s) 2 (nI t')) (91 + 2 * s) 3 (nI m')) 126 s (nI (50 + t'))) 127 s (nI m'), y_gJ (y_fJ J (92 + 2 * s) 60 0) 128 (60 * s) 60 0, fun d K => ?_, fun d K => ?_, ?_, ?_⟩
      · rw [y_row _ n I J K hs ht hm, if_pos h0, e1]
      · rw [m_row _ n _ _ K hs ht hm, if_pos h0, e2]
      · exact ag_u (ag_u (ag_u (ag_u (ag_u (ag_refl _ _) (Or.inr (rg_sh hs 1))) (Or.inr (rg_sh hs 2))) (Or.inr (rg_sh hs 3))) (Or.inr rfl)) (Or.inr rfl)
      · refine iv_sh_one (s := s) hS (fun e he hne => ⟨?_, ?_, fun c => ?_⟩) (fun e he hne j hj => ⟨?_, ?_⟩) (fun _ => ⟨?_, fun j hj => ?_⟩)
        · simp [uI_at, hne, show ¬ 126 = 91 + 2 * s by omega]
        · simp [uI_at, hne, show ¬ 127 = 91 + 2 * s by omega]
        · simp [uI_at, hne, show ¬ 91 + 2 * e = 126 by omega, show ¬ 91 + 2 * e = 127 by omega, show ¬ 2 * e = 2 * s by omega]
        · unfold y_gJ y_fJ
          rw [if_neg (by omega), if_neg (by omega)]
        · unfold y_gJ y_fJ
          rw [if_neg (by omega), if_neg (by omega)]
        · refine Or.inr (Or.inr ⟨t', m', by omega, hm', ?_, ?_, ?_, ?_, ?_, fun _ j hj => ⟨0, ?_⟩⟩)
          · simp [uI_at]
          · simp [uI_at, show ¬ 91 + 2 * s = 126 by omega, show ¬ 91 + 2 * s = 127 by omega]
          · simp [uI_at, show ¬ 91 + 2 * s = 126 by omega, show ¬ 91 + 2 * s = 127 by omega]
          · simp [uI_at, show ¬ 91 + 2 * s = 126 by omega, show ¬ 91 + 2 * s = 127 by omega]
          · simp [uI_at]
          unfold y_gJ y_fJ
          rw [if_neg (by omega), if_pos ⟨rfl, hj⟩]
          rfl
        · unfold y_gJ y_fJ
          rw [if_neg (by omega), if_pos ⟨rfl, hj⟩, if_pos ⟨rfl, by omega, by omega⟩]
    · refine ⟨.int (-14), I, J, I, J, fun d K => ?_, fun d K => ?_, ag_refl _ _, hS⟩
      · rw [y_row _ n I J K hs ht hm, if_neg h0]
      · rw [m_row _ n I J K hs ht hm, if_neg h0]
  · exact ⟨.int (-1), I, J, I, J, fun d K => y_rowB _ n I J K hx, fun d K => m_rowB _ n I J K hx, ag_refl _ _, hS⟩
