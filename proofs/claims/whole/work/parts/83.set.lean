/-! one number changed on both sides; both answer alike: letOff -/
theorem cl_inj0 : ∀ k j : Fin 54, clq k.1 = clq j.1 → clb k.1 = clb j.1 → k = j := by decide +kernel
theorem cl_inj {k j : Nat} (hk : k < 54) (hj : j < 54) (h1 : clq k = clq j) (h2 : clb k = clb j) : k = j := congrArg Fin.val (cl_inj0 ⟨k, hk⟩ ⟨j, hj⟩ h1 h2)
theorem cl_rg0 : ∀ k : Fin 54, (clq k.1 = 34 → clb k.1 = 8) ∧ clq k.1 ≠ 38 ∧ clq k.1 ≠ 39 ∧ 34 ≤ clq k.1 ∧ clq k.1 < 44 := by decide +kernel
theorem cl_rg {k : Nat} (hk : k < 54) : (clq k = 34 → clb k = 8) ∧ clq k ≠ 38 ∧ clq k ≠ 39 ∧ 34 ≤ clq k ∧ clq k < 44 := cl_rg0 ⟨k, hk⟩
theorem fo_set {P D k v : Nat} {I I' : sm_I} (h : iv_fo P D I) (hk : k < 54) (hv : v ≤ top k) (hp : 32 ≤ k → k < 40 → k - 32 < P) (h1 : I' (clq k) (clb k) = nI v) (h2 : I' 104 k = nI v)
    (hf : ∀ x c, ((34 ≤ x ∧ x < 44) ∨ x = 104 ∨ x = 108 ∨ x = 109 ∨ (x = 103 ∧ (c = 6 ∨ c = 7))) → ¬ (x = clq k ∧ c = clb k) → ¬ (x = 104 ∧ c = k) → I' x c = I x c) : iv_fo P D I' := by
  obtain ⟨⟨p1, p2, p3, p4, p5, p6⟩, q, z, e⟩ := h
  have hr := cl_rg hk
  refine ⟨⟨p1, p2, ?_, ?_, ?_, ?_⟩, fun j hj => ?_, fun p hp1 hp2 => ?_, fun e' he => ?_⟩
  · rw [hf _ _ (by omega) (by omega) (by omega), p3]
  · rw [hf _ _ (by omega) (by omega) (by omega), p4]
  · rw [hf _ _ (by omega) (by omega) (by omega), p5]
  · rw [hf _ _ (by omega) (by omega) (by omega), p6]
  · by_cases hjk : j = k
    · subst hjk
      exact ⟨by rw [h1, h2], v, hv, h2⟩
    · have hr' := cl_rg hj
      have ne : ¬ (clq j = clq k ∧ clb j = clb k) := fun y => hjk (cl_inj hj hk y.1 y.2)
      rw [hf (clq j) (clb j) (by omega) ne (by omega), hf 104 j (by omega) (by omega) (by omega)]
      exact q j hj
  · rw [hf _ _ (by omega) (by omega) (by omega)]
    exact z p hp1 hp2
  · obtain ⟨x, y, e1, e2, e3, e4, e5, e6, e7⟩ := e e' he
    exact ⟨x, y, e1, e2, e3, by rw [hf _ _ (by omega) (by omega) (by omega), e4], by rw [hf _ _ (by omega) (by omega) (by omega), e5], by rw [hf _ _ (by omega) (by omega) (by omega), e6], by rw [hf _ _ (by omega) (by omega) (by omega), e7]⟩
