/-! the law's text: places and steps -/
section
variable (t : Nat → Nat) (n : Nat)
/-- a reading goes on, within the text, and writes no more steps than it reads bytes -/
def gp (op : Nat → pR) : Prop := ∀ a, a ≤ n → a ≤ (op a).1 ∧ (op a).1 ≤ n ∧ ((op a).2.1 = false → a < (op a).1 ∧ (op a).2.2.1.length + a ≤ (op a).1)
theorem pl_gp {sg : Nat → Bool} {sub : Nat → pR} (hs : gp n sub) : ∀ (k a : Nat) (r : pR), a ≤ r.1 → r.1 ≤ n → (r.2.1 = false → a < r.1 ∧ r.2.2.1.length + a ≤ r.1) → a ≤ (pl t n sg sub k r).1 ∧ (pl t n sg sub k r).1 ≤ n ∧ ((pl t n sg sub k r).2.1 = false → a < (pl t n sg sub k r).1 ∧ (pl t n sg sub k r).2.2.1.length + a ≤ (pl t n sg sub k r).1)
  | 0, a, r, h1, h2, h3 => ⟨h1, h2, h3⟩
  | k + 1, a, r, h1, h2, h3 => by
    unfold pl
    by_cases hc : r.2.1 = false ∧ r.1 < n ∧ sg (t r.1) = true
    · rw [if_pos hc]
      obtain ⟨g1, g2, g3⟩ := hs (r.1 + 1) (by omega)
      refine pl_gp hs k a _ (by dsimp only; omega) g2 (fun hw => ?_)
      obtain ⟨g4, g5⟩ := g3 hw
      obtain ⟨g6, g7⟩ := h3 hc.1
      refine ⟨by dsimp only; omega, ?_⟩
      simp only [List.length_append, List.length_cons, List.length_nil]
      omega
    · rw [if_neg hc]
      exact ⟨h1, h2, h3⟩
theorem pv_gp {op : Nat → pR} (ho : gp n op) : ∀ j, gp n (pv t n op j)
  | 0 => ho
  | j + 1 => fun a ha => by
    have h := pv_gp ho j
    obtain ⟨h1, h2, h3⟩ := h a ha
    exact pl_gp t n h (mst (4 - j)) a _ h1 h2 h3
theorem pn_le : ∀ (k a v : Nat), a ≤ n → a ≤ (pn t n k a v).1 ∧ (pn t n k a v).1 ≤ n
  | 0, a, v, h => ⟨Nat.le_refl _, h⟩
  | k + 1, a, v, h => by
    unfold pn
    by_cases hc : a < n ∧ 48 ≤ t a ∧ t a ≤ 57
    · rw [if_pos hc]
      have := pn_le k (a + 1) (10 * v + (t a - 48)) (by omega)
      omega
    · rw [if_neg hc]
      exact ⟨Nat.le_refl _, h⟩
theorem pn_lt : ∀ (k a v : Nat), v < 10 ^ (4 - k) → k ≤ 4 → (pn t n k a v).2 < 10000
  | 0, a, v, h, _ => h
  | k + 1, a, v, h, hk => by
    unfold pn
    by_cases hc : a < n ∧ 48 ≤ t a ∧ t a ≤ 57
    · rw [if_pos hc]
      refine pn_lt k (a + 1) _ ?_ (by omega)
      have e : 4 - k = (4 - (k + 1)) + 1 := by omega
      rw [e, Nat.pow_succ]
      omega
    · rw [if_neg hc]
      refine Nat.lt_of_lt_of_le h ?_
      exact Nat.pow_le_pow_right (n := 10) (by decide) (show 4 - (k + 1) ≤ 4 by omega)
theorem pd_gp : gp n (pd t n) := by
  intro a ha
  unfold pd
  by_cases h1 : a < n ∧ nmi (t a) < 6
  · rw [if_pos h1]
    exact ⟨by dsimp only; omega, h1.1, fun _ => ⟨by dsimp only; omega, by simp only [List.length_cons, List.length_nil]; omega⟩⟩
  · rw [if_neg h1]
    have hp := pn_le t n 4 a 0 ha
    by_cases h2 : (pn t n 4 a 0).1 = a
    · rw [if_pos h2]
      exact ⟨Nat.le_refl _, ha, fun h => by cases h⟩
    · rw [if_neg h2]
      exact ⟨hp.1, hp.2, fun _ => ⟨by dsimp only; omega, by simp only [List.length_cons, List.length_nil]; omega⟩⟩
theorem po_gp : ∀ o, gp n (po t n o)
  | 0 => fun a ha => by
    unfold po
    by_cases h1 : a < n ∧ isO (t a) = true
    · simp only [if_pos h1]
      exact ⟨Nat.le_refl _, ha, fun h => by cases h⟩
    · simp only [if_neg h1]
      exact pd_gp t n a ha
  | o + 1 => fun a ha => by
    have ih := po_gp o
    unfold po
    by_cases h1 : a < n ∧ isO (t a) = true
    · simp only [if_pos h1]
      by_cases h2 : t a = 40
      · rw [if_pos h2]
        obtain ⟨g1, g2, g3⟩ := pv_gp t n ih 5 (a + 1) (by omega)
        by_cases h3 : (pv t n (po t n o) 5 (a + 1)).2.1 = false ∧ (pv t n (po t n o) 5 (a + 1)).1 < n ∧ t (pv t n (po t n o) 5 (a + 1)).1 = 41
        · rw [if_pos h3]
          obtain ⟨g4, g5⟩ := g3 h3.1
          exact ⟨by dsimp only; omega, h3.2.1, fun _ => ⟨by dsimp only; omega, by dsimp only; omega⟩⟩
        · rw [if_neg h3]
          exact ⟨by dsimp only; omega, g2, fun h => by cases h⟩
      · rw [if_neg h2]
        obtain ⟨g1, g2, g3⟩ := ih (a + 1) (by omega)
        refine ⟨by dsimp only; omega, g2, fun h => ?_⟩
        obtain ⟨g4, g5⟩ := g3 h
        refine ⟨by dsimp only; omega, ?_⟩
        simp only [List.length_append, List.length_cons, List.length_nil]
        omega
    · simp only [if_neg h1]
      exact pd_gp t n a ha
theorem pe_gp : gp n (pe t n) := pv_gp t n (po_gp t n 6) 5
/-- a line -/
theorem pi_gp (a w : Nat) (ha : a ≤ n) : a ≤ (pi' t n a w).1 ∧ (pi' t n a w).1 ≤ n ∧ ((pi' t n a w).2.1 = false → a < (pi' t n a w).1 ∧ (pi' t n a w).2.2.1.length + 2 * a ≤ 2 * (pi' t n a w).1 ∧ 0 < (pi' t n a w).2.2.1.length) := by
  obtain ⟨g1, g2, g3⟩ := pe_gp t n a ha
  unfold pi'
  by_cases h : (pe t n a).2.1 = false ∧ (pe t n a).1 < n ∧ t (pe t n a).1 = 63
  · rw [if_pos h]
    obtain ⟨g4, g5⟩ := g3 h.1
    obtain ⟨k1, k2, k3⟩ := pe_gp t n ((pe t n a).1 + 1) (by omega)
    refine ⟨by dsimp only; omega, k2, fun hw => ?_⟩
    obtain ⟨k4, k5⟩ := k3 hw
    refine ⟨by dsimp only; omega, ?_⟩
    simp only [List.length_append, List.length_cons, List.length_nil]
    omega
  · rw [if_neg h]
    refine ⟨g1, g2, fun hw => ?_⟩
    obtain ⟨g4, g5⟩ := g3 hw
    refine ⟨g4, ?_⟩
    simp only [List.length_append, List.length_cons, List.length_nil]
    omega
theorem px_gp : ∀ (k : Nat) (r : pL), r.1 ≤ n → (r.2.1 = false → 0 < r.1 ∧ r.2.2.1.length ≤ 2 * r.1 ∧ 0 < r.2.2.1.length) → r.1 ≤ (px t n k r).1 ∧ (px t n k r).1 ≤ n ∧ ((px t n k r).2.1 = false → 0 < (px t n k r).1 ∧ (px t n k r).2.2.1.length ≤ 2 * (px t n k r).1 ∧ 0 < (px t n k r).2.2.1.length)
  | 0, r, h1, h2 => ⟨Nat.le_refl _, h1, h2⟩
  | k + 1, r, h1, h2 => by
    unfold px
    by_cases hc : r.2.1 = false ∧ r.1 < n ∧ t r.1 = 59
    · rw [if_pos hc]
      obtain ⟨g1, g2, g3⟩ := pi_gp t n (r.1 + 1) r.2.2.1.length (by omega)
      obtain ⟨k1, k2, k3⟩ := px_gp k ((pi' t n (r.1 + 1) r.2.2.1.length).1, (pi' t n (r.1 + 1) r.2.2.1.length).2.1, r.2.2.1 ++ (pi' t n (r.1 + 1) r.2.2.1.length).2.2.1, fun g => (r.2.2.2 g).or ((pi' t n (r.1 + 1) r.2.2.1.length).2.2.2 g)) g2 (fun hw => by
        obtain ⟨g4, g5, g6⟩ := g3 hw
        obtain ⟨h3, h4, h5⟩ := h2 hc.1
        refine ⟨by dsimp only; omega, ?_⟩
        simp only [List.length_append]
        omega)
      refine ⟨?_, k2, k3⟩
      refine Nat.le_trans ?_ k1
      dsimp only
      omega
    · rw [if_neg hc]
      exact ⟨Nat.le_refl _, h1, h2⟩
theorem pt_gp : (pt t n).1 ≤ n ∧ ((pt t n).2.1 = false → 0 < (pt t n).1 ∧ (pt t n).2.2.1.length ≤ 2 * (pt t n).1 ∧ 0 < (pt t n).2.2.1.length) := by
  obtain ⟨g1, g2, g3⟩ := pi_gp t n 0 0 (Nat.zero_le _)
  obtain ⟨k1, k2, k3⟩ := px_gp t n 120 (pi' t n 0 0) g2 (fun hw => by
    obtain ⟨g4, g5, g6⟩ := g3 hw
    exact ⟨g4, by omega, g6⟩)
  exact ⟨k2, k3⟩
end
