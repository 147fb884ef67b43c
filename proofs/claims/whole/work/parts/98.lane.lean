/-! lane, purely -/
def trl (R : Nat → Option (Nat → Nat)) (ok : Nat → Bool) : Nat → Nat → Option (Nat → Nat)
  | 0, _ => none
  | r + 1, t => if ok t = true then (match R t with
    | some B => some B
    | none => trl R ok r (t + 1)) else trl R ok r (t + 1)
theorem trl_s {R : Nat → Option (Nat → Nat)} {ok : Nat → Bool} {r t : Nat} : trl R ok (r + 1) t = if ok t = true then (match R t with
    | some B => some B
    | none => trl R ok r (t + 1)) else trl R ok r (t + 1) := rfl
/-- whether debt e may be sung on evening t -/
def okt (f a b A : Nat → Nat) (e t : Nat) : Bool := andb (fun o => decide (f (40 + o) = 0) || !decide (A o = t) || !decide (CL f a b o e)) e
theorem okt_iff {f a b A : Nat → Nat} {e t : Nat} : okt f a b A e t = true ↔ ∀ o, o < e → ¬ f (40 + o) = 0 → A o = t → ¬ CL f a b o e := by
  unfold okt
  rw [andb_iff]
  constructor
  · intro h o ho h1 h2 h3
    have := h o ho
    simp [h1, h2] at this
    rcases h3 with h3 | h3
    · exact this.1 h3
    · have h4 := this.2
      have h5 := h3.1
      have h6 := h3.2
      omega
  · intro h o ho
    by_cases h1 : f (40 + o) = 0
    · simp [h1]
    · by_cases h2 : A o = t
      · have h3 := h o ho h1 h2
        rw [decide_eq_false h3]
        simp
      · simp [h2]
def pln (f a b : Nat → Nat) (m : Nat) : Nat → Nat → Nat → (Nat → Nat) → Option (Nat → Nat)
  | 0, _, _, A => some A
  | w + 1, e, u, A => if f (40 + e) = 0 then pln f a b m w (e + 1) u A else trl (fun t => pln f a b m w (e + 1) (max u (t + 1)) (fv A e t)) (okt f a b A e) (min (u + 1) m) 0
theorem pln_s {f a b : Nat → Nat} {m w e u : Nat} {A : Nat → Nat} : pln f a b m (w + 1) e u A = if f (40 + e) = 0 then pln f a b m w (e + 1) u A else trl (fun t => pln f a b m w (e + 1) (max u (t + 1)) (fv A e t)) (okt f a b A e) (min (u + 1) m) 0 := rfl
theorem trl_some {R : Nat → Option (Nat → Nat)} {ok : Nat → Bool} : ∀ {r t : Nat} {B : Nat → Nat}, trl R ok r t = some B → ∃ s, t ≤ s ∧ s < t + r ∧ ok s = true ∧ R s = some B
  | 0, t, B, h => by cases h
  | r + 1, t, B, h => by
    rw [trl_s] at h
    by_cases h1 : ok t = true
    · rw [if_pos h1] at h
      cases h2 : R t with
      | some C =>
        rw [h2] at h
        exact ⟨t, Nat.le_refl _, by omega, h1, by rw [h2]; exact h⟩
      | none =>
        rw [h2] at h
        obtain ⟨s, s1, s2, s3, s4⟩ := trl_some h
        exact ⟨s, by omega, by omega, s3, s4⟩
    · rw [if_neg h1] at h
      obtain ⟨s, s1, s2, s3, s4⟩ := trl_some h
      exact ⟨s, by omega, by omega, s3, s4⟩
theorem trl_ex {R : Nat → Option (Nat → Nat)} {ok : Nat → Bool} : ∀ {r t s : Nat}, t ≤ s → s < t + r → ok s = true → (∃ B, R s = some B) → ∃ B, trl R ok r t = some B
  | 0, t, s, h1, h2, _, _ => by omega
  | r + 1, t, s, h1, h2, h3, h4 => by
    rw [trl_s]
    by_cases e : t = s
    · subst e
      obtain ⟨B, hB⟩ := h4
      rw [if_pos h3, hB]
      exact ⟨B, rfl⟩
    · have ih := trl_ex (r := r) (t := t + 1) (show t + 1 ≤ s by omega) (by omega) h3 h4
      by_cases h5 : ok t = true
      · rw [if_pos h5]
        cases R t with
        | some B => exact ⟨B, rfl⟩
        | none => exact ih
      · rw [if_neg h5]
        exact ih
/-- a plan of the first debts -/
def plo (f a b A : Nat → Nat) (m e : Nat) : Prop := (∀ o, o < e → ¬ f (40 + o) = 0 → A o < m) ∧ ∀ o p, p < e → o < p → ¬ f (40 + o) = 0 → ¬ f (40 + p) = 0 → CL f a b o p → ¬ A o = A p
theorem pln_ok {f a b : Nat → Nat} {m : Nat} : ∀ {w e u : Nat} {A B : Nat → Nat}, plo f a b A m e → pln f a b m w e u A = some B → plo f a b B m (e + w)
  | 0, e, u, A, B, h1, h2 => by
    cases h2
    exact h1
  | w + 1, e, u, A, B, h1, h2 => by
    rw [pln_s] at h2
    by_cases h0 : f (40 + e) = 0
    · rw [if_pos h0] at h2
      have : plo f a b A m (e + 1) := ⟨fun o ho h3 => by
        by_cases he : o = e
        · subst he
          exact absurd h0 h3
        · exact h1.1 o (by omega) h3, fun o p hp hop h3 h4 => by
        by_cases he : p = e
        · subst he
          exact absurd h0 h4
        · exact h1.2 o p (by omega) hop h3 h4⟩
      have := pln_ok this h2
      rw [show e + 1 + w = e + (w + 1) by omega] at this
      exact this
    · rw [if_neg h0] at h2
      obtain ⟨s, s1, s2, s3, s4⟩ := trl_some h2
      have hk := okt_iff.mp s3
      have : plo f a b (fv A e s) m (e + 1) := ⟨fun o ho h3 => by
        by_cases he : o = e
        · subst he
          rw [fv_s]
          omega
        · rw [fv_o _ he]
          exact h1.1 o (by omega) h3, fun o p hp hop h3 h4 h5 => by
        by_cases he : p = e
        · subst he
          rw [fv_s, fv_o _ (by omega)]
          exact fun z => hk o hop h3 z h5
        · rw [fv_o _ he, fv_o _ (by omega)]
          exact h1.2 o p (by omega) hop h3 h4 h5⟩
      have := pln_ok this s4
      rw [show e + 1 + w = e + (w + 1) by omega] at this
      exact this
theorem pln_ex {f a b : Nat → Nat} {m : Nat} : ∀ {w e u : Nat} {A : Nat → Nat}, e + w ≤ m → u ≤ e → (∀ o, o < e → ¬ f (40 + o) = 0 → A o < u) → ∃ B, pln f a b m w e u A = some B
  | 0, e, u, A, _, _, _ => ⟨A, rfl⟩
  | w + 1, e, u, A, h1, h2, h3 => by
    rw [pln_s]
    by_cases h0 : f (40 + e) = 0
    · rw [if_pos h0]
      exact pln_ex (by omega) (by omega) (fun o ho h4 => by
        by_cases he : o = e
        · subst he
          exact absurd h0 h4
        · exact h3 o (by omega) h4)
    · rw [if_neg h0]
      refine trl_ex (s := u) (Nat.zero_le _) (by omega) (okt_iff.mpr (fun o ho h4 h5 => by have := h3 o ho h4; omega)) ?_
      exact pln_ex (by omega) (by omega) (fun o ho h4 => by
        by_cases he : o = e
        · subst he
          rw [fv_s]
          omega
        · rw [fv_o _ he]
          have := h3 o (by omega) h4
          omega)
/-- no more than there are evenings -/
theorem cnt_mono {g g' : Nat → Bool} : ∀ {k : Nat}, (∀ p, p < k → g p = true → g' p = true) → cnt g k ≤ cnt g' k
  | 0, _ => Nat.le_refl _
  | k + 1, h => by
    show cnt g k + (if g k = true then 1 else 0) ≤ cnt g' k + (if g' k = true then 1 else 0)
    have ih := cnt_mono (k := k) (fun p hp => h p (by omega))
    by_cases h1 : g k = true
    · rw [if_pos h1, if_pos (h k (by omega) h1)]
      omega
    · rw [if_neg h1]
      split <;> omega
theorem cnt_one {g : Nat → Bool} : ∀ {k : Nat}, (∀ p q, p < k → q < k → g p = true → g q = true → p = q) → cnt g k ≤ 1
  | 0, _ => Nat.zero_le _
  | k + 1, h => by
    show cnt g k + (if g k = true then 1 else 0) ≤ 1
    by_cases h1 : g k = true
    · have : cnt g k ≤ cnt (fun _ => false) k := cnt_mono (fun p hp hg => by
        have := h p k (by omega) (by omega) hg h1
        omega)
      have h0 : ∀ j, cnt (fun _ => false) j = 0 := fun j => by
        induction j with
        | zero => rfl
        | succ j ih =>
          show cnt (fun _ => false) j + (if false = true then 1 else 0) = 0
          rw [ih]
          rfl
      rw [h0] at this
      rw [if_pos h1]
      omega
    · rw [if_neg h1]
      exact cnt_one (fun p q hp hq => h p q (by omega) (by omega))
theorem cnt_pig {A : Nat → Nat} {n : Nat} : ∀ {m : Nat} {g : Nat → Bool}, (∀ p, p < n → g p = true → A p < m) → (∀ p q, p < n → q < n → g p = true → g q = true → A p = A q → p = q) → cnt g n ≤ m
  | 0, g, h1, _ => by
    have : cnt g n ≤ cnt (fun _ => false) n := cnt_mono (fun p hp hg => absurd (h1 p hp hg) (Nat.not_lt_zero _))
    have h0 : ∀ j, cnt (fun _ => false) j = 0 := fun j => by
      induction j with
      | zero => rfl
      | succ j ih =>
        show cnt (fun _ => false) j + (if false = true then 1 else 0) = 0
        rw [ih]
        rfl
    rw [h0] at this
    exact this
  | m + 1, g, h1, h2 => by
    have e : cnt g n = cnt (fun p => g p && decide (A p = m)) n + cnt (fun p => g p && !decide (A p = m)) n := cnt_add (fun p hp => by
      by_cases h3 : g p = true
      · by_cases h4 : A p = m
        · exact Or.inl ⟨by simp [h3, h4], by simp [h4], h3⟩
        · exact Or.inr (Or.inl ⟨by simp [h4], by simp [h3, h4], h3⟩)
      · have h3' : g p = false := by
          cases hx : g p with
          | false => rfl
          | true => exact absurd hx h3
        exact Or.inr (Or.inr ⟨by simp [h3'], by simp [h3'], h3'⟩))
    have c1 : cnt (fun p => g p && decide (A p = m)) n ≤ 1 := cnt_one (fun p q hp hq hg hh => by
      simp at hg hh
      exact h2 p q hp hq hg.1 hh.1 (by omega))
    have c2 : cnt (fun p => g p && !decide (A p = m)) n ≤ m := cnt_pig (A := A) (m := m) (fun p hp hg => by
      simp at hg
      have := h1 p hp hg.1
      omega) (fun p q hp hq hg hh => by
      simp at hg hh
      exact h2 p q hp hq hg.1 hh.1)
    omega
section
variable {D : Nat} {f a b : Nat → Nat}
theorem crd_ok (ok : Nat → Bool) : ∀ s, crd ok s = 0 ∨ ok (crd ok s) = true
  | 0 => Or.inl rfl
  | s + 1 => by
    rw [crd_s]
    split
    · rename_i h
      exact Or.inr h.1
    · exact crd_ok ok s
theorem crd_lt (ok : Nat → Bool) : ∀ {s : Nat}, 1 ≤ s → crd ok s < s
  | s + 1, _ => by
    rw [crd_s]
    split
    · omega
    · by_cases h4 : 1 ≤ s
      · have := crd_lt ok h4
        omega
      · have : s = 0 := by omega
        subst this
        exact Nat.zero_lt_one
/-- a crowd needs as many evenings as it has debts -/
theorem lane_ge (hD : D ≤ 12) {m : Nat} {B : Nat → Nat} (h : pln f a b m D 0 0 (fun _ => 0) = some B) : pc (crd (okm f a b (ow f D) D) (2 ^ D)) ≤ m := by
  have hp : plo f a b B m D := by
    have := pln_ok (e := 0) (w := D) (show plo f a b (fun _ => 0) m 0 from ⟨fun o ho => absurd ho (Nat.not_lt_zero _), fun o p hp => absurd hp (Nat.not_lt_zero _)⟩) h
    rw [Nat.zero_add] at this
    exact this
  rcases crd_ok (okm f a b (ow f D) D) (2 ^ D) with h0 | h0
  · rw [h0]
    exact Nat.zero_le _
  · generalize crd (okm f a b (ow f D) D) (2 ^ D) = s at h0 ⊢
    unfold okm at h0
    rw [Bool.and_eq_true, decide_eq_true_iff, andb_iff] at h0
    obtain ⟨h1, h2⟩ := h0
    have hsub := (tb_sub _ _).mp h1
    have hin : ∀ i, i < 12 → s.testBit i = true → i < D ∧ ¬ f (40 + i) = 0 ∧ tb (nI s) i = true := fun i hi hx => by
      have h3 : tb (nI s) i = true := by
        rw [tb_nI]
        simp [hx]
        omega
      have := hsub i (by omega) h3
      rw [tb_ow hD i (by omega)] at this
      simp at this
      exact ⟨this.1, this.2, h3⟩
    have hcl : ∀ i j, i < 12 → j < i → s.testBit i = true → s.testBit j = true → ¬ B j = B i := fun i j hi hj hx hy => by
      obtain ⟨i1, i2, i3⟩ := hin i hi hx
      obtain ⟨j1, j2, j3⟩ := hin j (by omega) hy
      have := h2 i i1
      unfold gmr at this
      rw [andb_iff] at this
      have := this j hj
      unfold gmb at this
      rw [i3, j3] at this
      have hc : CL f a b i j := by simpa using this
      exact hp.2 j i i1 hj j2 i2 (CL_sym hc)
    unfold pc
    refine cnt_pig (A := B) (fun p hp2 hg => ?_) (fun p q hp2 hq hg hh hAB => ?_)
    · obtain ⟨i1, i2, i3⟩ := hin p hp2 hg
      exact hp.1 p i1 i2
    · apply Classical.byContradiction
      intro hne
      by_cases hlt : p < q
      · exact hcl q p hq hlt hh hg hAB
      · exact hcl p q hp2 (by omega) hg hh hAB.symm
theorem lane_ex (hD : D ≤ 12) : ∃ B, pln f a b 12 D 0 0 (fun _ => 0) = some B := pln_ex (by omega) (Nat.le_refl _) (fun o ho => absurd ho (Nat.not_lt_zero _))
end
