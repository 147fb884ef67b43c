/-! what stays: groups -/
theorem rg2 {q b : Nat} (h : (34 ≤ q ∧ q < 44) ∨ q = 104 ∨ q = 108 ∨ q = 109 ∨ (q = 103 ∧ (b = 6 ∨ b = 7))) : rg q b = 2 := by
  by_cases h3 : q = 103
  · subst h3
    have : b = 6 ∨ b = 7 := by omega
    rcases this with rfl | rfl <;> rfl
  · rw [rg_b b (by omega) h3]
    have : ∀ q, q < 130 → ((34 ≤ q ∧ q < 44) ∨ q = 104 ∨ q = 108 ∨ q = 109) → rg q 0 = 2 := by decide
    exact this q (by omega) (by omega)
theorem rg6 {q b : Nat} (h : (48 ≤ q ∧ q < 54) ∨ q = 59 ∨ (121 ≤ q ∧ q < 124) ∨ (q = 103 ∧ (b = 33 ∨ b = 34 ∨ b = 35))) : rg q b = 6 := by
  by_cases h3 : q = 103
  · subst h3
    have : b = 33 ∨ b = 34 ∨ b = 35 := by omega
    rcases this with rfl | rfl | rfl <;> rfl
  · rw [rg_b b (by omega) h3]
    have : ∀ q, q < 130 → ((48 ≤ q ∧ q < 54) ∨ q = 59 ∨ (121 ≤ q ∧ q < 124)) → rg q 0 = 6 := by decide
    exact this q (by omega) (by omega)
theorem rg3 {q b : Nat} (h : (54 ≤ q ∧ q < 59) ∨ ((105 ≤ q ∧ q < 108) ∨ q = 117) ∨ (q = 103 ∧ (b = 4 ∨ b = 5))) : rg q b = 3 := by
  by_cases h3 : q = 103
  · subst h3
    have : b = 4 ∨ b = 5 := by omega
    rcases this with rfl | rfl <;> rfl
  · rw [rg_b b (by omega) h3]
    have : ∀ q, q < 130 → ((54 ≤ q ∧ q < 59) ∨ ((105 ≤ q ∧ q < 108) ∨ q = 117)) → rg q 0 = 3 := by decide
    exact this q (by omega) (by omega)
/-- nothing but people, debts and what is led changed -/
theorem fr26 {I I' : sm_I} (h : ∀ x c, ¬ (((x = 29 ∨ x = 30 ∨ x = 32 ∨ (44 ≤ x ∧ x < 48) ∨ (60 ≤ x ∧ x < 87)) ∨ ((112 ≤ x ∧ x < 121 ∧ ¬ x = 117) ∨ (x = 103 ∧ 14 ≤ c ∧ c ≤ 32))) ∨ ((34 ≤ x ∧ x < 44) ∨ x = 104 ∨ x = 108 ∨ x = 109 ∨ (x = 103 ∧ (c = 6 ∨ c = 7))) ∨ ((48 ≤ x ∧ x < 54) ∨ x = 59 ∨ (121 ≤ x ∧ x < 124) ∨ (x = 103 ∧ (c = 33 ∨ c = 34 ∨ c = 35)))) → I' x c = I x c) : ∀ q b, rg q b ≠ 0 → rg q b ≠ 2 → rg q b ≠ 6 → I' q b = I q b := by
  intro q b h0 h2 h6
  refine h q b (fun z => ?_)
  rcases z with (z | z) | z | z
  · exact h0 (rg0_c b z)
  · exact h0 (rg0_m z)
  · exact h2 (rg2 z)
  · exact h6 (rg6 z)
/-- nothing but people, debts and changes -/
theorem fr23 {I I' : sm_I} (h : ∀ x c, ¬ (((34 ≤ x ∧ x < 44) ∨ x = 104 ∨ x = 108 ∨ x = 109 ∨ (x = 103 ∧ (c = 6 ∨ c = 7))) ∨ ((54 ≤ x ∧ x < 59) ∨ (105 ≤ x ∧ x < 108) ∨ (x = 103 ∧ (c = 4 ∨ c = 5)))) → I' x c = I x c) : ∀ q b, rg q b ≠ 0 → rg q b ≠ 2 → rg q b ≠ 3 → I' q b = I q b := by
  intro q b h0 h2 h3
  refine h q b (fun z => ?_)
  rcases z with z | z
  · exact h2 (rg2 z)
  · exact h3 (rg3 (by omega))
theorem iv_ro_g {xs : Nat → Int32} {I I' : sm_I} (h : iv_ro xs I) (hf : ∀ q b, rg q b = 1 → I' q b = I q b) : iv_ro xs I' := by
  intro q b hq
  have hr : rg q b = 1 := by unfold rg; rw [if_pos hq]
  rw [hf q b hr, h q b hq]
theorem iv_fo_g {P D : Nat} {I I' : sm_I} (h : iv_fo P D I) (hf : ∀ q b, rg q b = 2 → I' q b = I q b) : iv_fo P D I' := by
  obtain ⟨f, a, b, hb, cF, cT, mF, hz⟩ := fo_pure h
  have e : ∀ x c, ((34 ≤ x ∧ x < 44) ∨ x = 104 ∨ x = 108 ∨ x = 109 ∨ (x = 103 ∧ (c = 6 ∨ c = 7))) → I' x c = I x c := fun x c hx => hf x c (rg2 hx)
  exact fo_back hb (cFo_f cF (fun x c h1 h2 => e x c (by omega))) (cTa_f cT (fun x c h1 h2 => e x c (by omega))) (mFo_f mF (fun x c hx => e x c (by omega))) hz
theorem iv_ch_g {P P' : Nat} {I I' : sm_I} (h : iv_ch P I) (hP : P ≤ P') (hf : ∀ q b, rg q b = 3 → I' q b = I q b) : iv_ch P' I' := by
  have e : ∀ x c, ((54 ≤ x ∧ x < 59) ∨ ((105 ≤ x ∧ x < 108) ∨ x = 117) ∨ (x = 103 ∧ (c = 4 ∨ c = 5))) → I' x c = I x c := fun x c hx => hf x c (rg3 hx)
  obtain ⟨c, n, h1, h2, h3, h4, h5, h6, h7⟩ := h
  refine ⟨c, n, h1, ⟨h2.1, by rw [e _ _ (by omega), h2.2]⟩, by rw [e _ _ (by omega), h3], by rw [e _ _ (by omega), h4], by rw [e _ _ (by omega), h5], by rw [e _ _ (by omega), h6], fun j hj => ?_⟩
  obtain ⟨k, x, y, k1, k2, k3, k4, k5, k6, k7, k8, k9, k10, k11⟩ := h7 j hj
  exact ⟨k, x, y, k1, fun z1 z2 => Nat.lt_of_lt_of_le (k2 z1 z2) hP, k3, k4, by rw [e _ _ (by omega), k5], by rw [e _ _ (by omega), k6], by rw [e _ _ (by omega), k7], by rw [e _ _ (by omega), k8], by rw [e _ _ (by omega), k9], by rw [e _ _ (by omega), k10], by rw [e _ _ (by omega), k11]⟩
theorem clq_9 {k : Nat} (h1 : 24 ≤ k) (h2 : k < 54) (h3 : k ≠ 52) : 49 ≤ clq k + 9 ∧ clq k + 9 < 53 := by
  have : ∀ k, k < 54 → 24 ≤ k → k ≠ 52 → 49 ≤ clq k + 9 ∧ clq k + 9 < 53 := by decide
  exact this k h2 h1 h3
/-- the image, where what is led may have changed -/
theorem iv_im_l {P D P' D' : Nat} {I I' : sm_I} (h : iv_im P D I) (hP : P ≤ P') (hD : D ≤ D') (hl : ∀ k, k < 5 → I' 59 k = I' 121 k) (hf : ∀ x c, ((48 ≤ x ∧ x < 54) ∨ x = 122 ∨ x = 123 ∨ (x = 103 ∧ (c = 33 ∨ c = 34 ∨ c = 35))) → I' x c = I x c) : iv_im P' D' I' := by
  refine ⟨hl, ?_⟩
  rcases h.2 with ⟨h1, h2⟩ | ⟨h1, h2, p, e, h3, h4, h5, h6, h7, h8, h9, h10⟩
  · exact Or.inl ⟨by rw [hf _ _ (by omega), h1], by rw [hf _ _ (by omega), h2]⟩
  · refine Or.inr ⟨by rw [hf _ _ (by omega), h1], by rw [hf _ _ (by omega), h2], p, e, by omega, by omega, by rw [hf _ _ (by omega), h5], by rw [hf _ _ (by omega), h6], by rw [hf _ _ (by omega), h7], by rw [hf _ _ (by omega), h8], fun k k1 k2 k3 => ?_, fun k hk => by rw [hf _ _ (by omega), hf _ _ (by omega), h10 k hk]⟩
    have := clq_9 k1 k2 k3
    obtain ⟨z1, v, z2, z3⟩ := h9 k k1 k2 k3
    exact ⟨by rw [hf _ _ (by omega), hf _ _ (by omega), z1], v, z2, by rw [hf _ _ (by omega), z3]⟩
theorem iv_im_g {P D P' D' : Nat} {I I' : sm_I} (h : iv_im P D I) (hP : P ≤ P') (hD : D ≤ D') (hf : ∀ q b, rg q b = 6 → I' q b = I q b) : iv_im P' D' I' := by
  have e : ∀ x c, ((48 ≤ x ∧ x < 54) ∨ x = 59 ∨ (121 ≤ x ∧ x < 124) ∨ (x = 103 ∧ (c = 33 ∨ c = 34 ∨ c = 35))) → I' x c = I x c := fun x c hx => hf x c (rg6 hx)
  exact iv_im_l h hP hD (fun k hk => by rw [e _ _ (by omega), e _ _ (by omega), h.1 k hk]) (fun x c hx => e x c (by omega))
/-- all that holds between two calls -/
def Inv (xs : Nat → Int32) (I : sm_I) (J : sm_J) : Prop := ∃ P D B : Nat, iv_ro xs I ∧ iv_fo P D I ∧ iv_ch P I ∧ iv_ta I ∧ iv_la I ∧ iv_im P D I ∧ iv_tu B I ∧ iv_sh B I J
theorem iv_tu_g {B : Nat} {I I' : sm_I} (h : iv_tu B I) (hf : ∀ q b, rg q b = 7 → I' q b = I q b) : iv_tu B I' := by
  obtain ⟨h1, h2, h3, h4, r, h5, h6, h7, h8⟩ := h
  refine ⟨h1, by rw [hf 87 1 rfl, h2], by rw [hf 103 38 rfl, h3], fun b hb => ?_, r, h5, by rw [hf 87 2 rfl, h6], by rw [hf 103 41 rfl, h7], fun j hj => by rw [hf 88 j rfl, hf 125 j rfl, h8 j hj]⟩
  obtain ⟨k, k1, k2, k3⟩ := h4 b hb
  exact ⟨k, k1, by rw [hf 89 b rfl, k2], by rw [hf 124 b rfl, k3]⟩
theorem iv_sh_g {B B' : Nat} {I I' : sm_I} {J J' : sm_J} (h : iv_sh B I J) (hB : B ≤ B') (hf : ∀ q b, rg q b = 8 → I' q b = I q b) (hj : agJ J J') : iv_sh B' I' J' := by
  intro s hs
  obtain ⟨h1, h2⟩ := h s hs
  refine ⟨?_, fun j hjj => by rw [hj _ _ (by omega), hj _ _ (by omega), h2 j hjj]⟩
  unfold shl at h1 ⊢
  rw [hf 126 s rfl, hf 127 s rfl, hf _ _ (rg_sh hs 1), hf _ _ (rg_sh hs 2), hf _ _ (rg_sh hs 3)]
  rcases h1 with h | ⟨b, hb, h⟩ | ⟨t, m, h3, h4, h5, h6, h7, h8, h9, h10⟩
  · exact Or.inl h
  · exact Or.inr (Or.inl ⟨b, by omega, h⟩)
  · exact Or.inr (Or.inr ⟨t, m, h3, h4, h5, h6, h7, h8, h9, fun ht j hjj => by rw [hj _ _ (by omega)]; exact h10 ht j hjj⟩)
theorem Inv_0 {xs : Nat → Int32} {I I' : sm_I} {J : sm_J} (h : Inv xs I J) (ha : ag 0 I I') : Inv xs I' J := by
  obtain ⟨P, D, B, h1, h2, h3, h4, h5, h6, h7, h8⟩ := h
  have e : ∀ g, g ≠ 0 → ∀ q b, rg q b = g → I' q b = I q b := fun g hg q b hr => ha q b (by rw [hr]; exact hg) (by rw [hr]; exact hg)
  exact ⟨P, D, B, iv_ro_g h1 (e 1 (by decide)), iv_fo_g h2 (e 2 (by decide)), iv_ch_g h3 (Nat.le_refl _) (e 3 (by decide)), iv_ta_f h4 (e 4 (by decide)), iv_la_f h5 (e 5 (by decide)), iv_im_g h6 (Nat.le_refl _) (Nat.le_refl _) (e 6 (by decide)), iv_tu_g h7 (e 7 (by decide)), iv_sh_g h8 (Nat.le_refl _) (e 8 (by decide)) (fun _ _ _ => rfl)⟩
