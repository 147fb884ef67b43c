/-! settle, purely -/
theorem nx_tb (s p i : Nat) : (s ^^^ 2 ^ p).testBit i = (s.testBit i ^^ decide (p = i)) := by rw [Nat.testBit_xor, Nat.testBit_two_pow]
theorem nx_set {s p : Nat} (h : s.testBit p = true) (i : Nat) : (s ^^^ 2 ^ p).testBit i = (s.testBit i && !decide (i = p)) := by
  rw [nx_tb]
  by_cases e : i = p
  · subst e
    simp [h]
  · simp [e, Ne.symm (a := i) (b := p) e]
theorem nx_lt {s p : Nat} (h : s.testBit p = true) : s ^^^ 2 ^ p < s := by
  have h1 : (s ^^^ 2 ^ p) &&& s = s ^^^ 2 ^ p := by
    apply Nat.eq_of_testBit_eq
    intro i
    rw [Nat.testBit_and, nx_set h]
    cases s.testBit i <;> simp
  have h2 : (s ^^^ 2 ^ p) &&& s ≤ s := Nat.and_le_right
  rw [h1] at h2
  have h3 : ¬ s ^^^ 2 ^ p = s := fun z => by
    have h4 := nx_set h p
    rw [z, h] at h4
    simp at h4
  omega
/-- the most of those in a set -/
def mxs (g : Nat → Nat) (s : Nat) : Nat → Nat
  | 0 => 0
  | k + 1 => if s.testBit k = true then max (mxs g s k) (g k) else mxs g s k
theorem mxs_s {g : Nat → Nat} {s k : Nat} : mxs g s (k + 1) = if s.testBit k = true then max (mxs g s k) (g k) else mxs g s k := rfl
theorem mxs_congr {g g' : Nat → Nat} {s : Nat} : ∀ {k : Nat}, (∀ p, p < k → s.testBit p = true → g p = g' p) → mxs g s k = mxs g' s k
  | 0, _ => rfl
  | k + 1, h => by
    rw [mxs_s, mxs_s, mxs_congr (fun p hp => h p (by omega))]
    by_cases hb : s.testBit k = true
    · rw [if_pos hb, if_pos hb, h k (by omega) hb]
    · rw [if_neg hb, if_neg hb]
theorem mxs_le {g : Nat → Nat} {s B : Nat} : ∀ {k : Nat}, (∀ p, p < k → s.testBit p = true → g p ≤ B) → mxs g s k ≤ B
  | 0, _ => Nat.zero_le _
  | k + 1, h => by
    have h1 := mxs_le (k := k) (fun p hp => h p (by omega))
    rw [mxs_s]
    by_cases hb : s.testBit k = true
    · rw [if_pos hb]
      exact Nat.max_le.mpr ⟨h1, h k (by omega) hb⟩
    · rw [if_neg hb]
      exact h1
theorem le_mxs {g : Nat → Nat} {s p : Nat} : ∀ {k : Nat}, p < k → s.testBit p = true → g p ≤ mxs g s k
  | k + 1, hp, hb => by
    rw [mxs_s]
    by_cases e : p = k
    · subst e
      rw [if_pos hb]
      exact Nat.le_max_right _ _
    · have h1 := le_mxs (g := g) (k := k) (show p < k by omega) hb
      split
      · exact Nat.le_trans h1 (Nat.le_max_left _ _)
      · exact h1
theorem mxs_at {g : Nat → Nat} {s : Nat} : ∀ {k : Nat}, mxs g s k = 0 ∨ ∃ p, p < k ∧ s.testBit p = true ∧ g p = mxs g s k
  | 0 => Or.inl rfl
  | k + 1 => by
    rw [mxs_s]
    have ih := mxs_at (g := g) (s := s) (k := k)
    by_cases hb : s.testBit k = true
    · rw [if_pos hb]
      by_cases hm : mxs g s k ≤ g k
      · rw [Nat.max_eq_right hm]
        exact Or.inr ⟨k, by omega, hb, rfl⟩
      · rw [Nat.max_eq_left (by omega)]
        rcases ih with h | ⟨p, h1, h2, h3⟩
        · exact Or.inl h
        · exact Or.inr ⟨p, by omega, h2, h3⟩
    · rw [if_neg hb]
      rcases ih with h | ⟨p, h1, h2, h3⟩
      · exact Or.inl h
      · exact Or.inr ⟨p, by omega, h2, h3⟩
def stab (q z : Nat → Bool) (P : Nat) : Nat → Nat → Nat
  | 0 => fun _ => 0
  | s + 1 => fun j => if j = s + 1 then (if q (s + 1) = true then mxs (fun p => stab q z P s ((s + 1) ^^^ 2 ^ p)) (s + 1) P + (if z (s + 1) = true then 1 else 0) else 0) else stab q z P s j
def sv (q z : Nat → Bool) (P j : Nat) : Nat := stab q z P j j
theorem stab_eq {q z : Nat → Bool} {P : Nat} : ∀ {s j : Nat}, j ≤ s → stab q z P s j = sv q z P j
  | 0, j, h => by
    have : j = 0 := by omega
    subst this
    rfl
  | s + 1, j, h => by
    by_cases e : j = s + 1
    · subst e
      rfl
    · show (if j = s + 1 then _ else stab q z P s j) = _
      rw [if_neg e, stab_eq (by omega)]
theorem sv_0 {q z : Nat → Bool} {P : Nat} : sv q z P 0 = 0 := rfl
theorem sv_s {q z : Nat → Bool} {P s : Nat} (hs : 0 < s) : sv q z P s = if q s = true then mxs (fun p => sv q z P (s ^^^ 2 ^ p)) s P + (if z s = true then 1 else 0) else 0 := by
  obtain ⟨t, rfl⟩ : ∃ t, s = t + 1 := ⟨s - 1, by omega⟩
  show (if t + 1 = t + 1 then (if q (t + 1) = true then mxs (fun p => stab q z P t ((t + 1) ^^^ 2 ^ p)) (t + 1) P + (if z (t + 1) = true then 1 else 0) else 0) else stab q z P t (t + 1)) = _
  rw [if_pos rfl]
  rw [mxs_congr (g' := fun p => sv q z P ((t + 1) ^^^ 2 ^ p)) (fun p hp hb => stab_eq (by have := nx_lt hb; omega))]
theorem sv_le {q z : Nat → Bool} {P : Nat} (s : Nat) : sv q z P s ≤ s := by
  induction s using Nat.strongRecOn with
  | ind s ih =>
    by_cases h0 : s = 0
    · subst h0
      exact Nat.le_refl _
    · rw [sv_s (by omega)]
      split
      · have : mxs (fun p => sv q z P (s ^^^ 2 ^ p)) s P ≤ s - 1 := mxs_le (fun p hp hb => by
          have h1 := nx_lt hb
          have := ih _ h1
          omega)
        split <;> omega
      · omega
/-- sums over a set -/
def ssum (c : Nat → Int32) (s : Nat) : Nat → Int32
  | 0 => 0
  | k + 1 => if s.testBit k = true then ssum c s k + c k else ssum c s k
theorem ssum_s {c : Nat → Int32} {s k : Nat} : ssum c s (k + 1) = if s.testBit k = true then ssum c s k + c k else ssum c s k := rfl
theorem ssum_congr {c : Nat → Int32} {s t : Nat} : ∀ {k : Nat}, (∀ p, p < k → ¬ c p = 0 → s.testBit p = t.testBit p) → ssum c s k = ssum c t k
  | 0, _ => rfl
  | k + 1, h => by
    rw [ssum_s, ssum_s, ssum_congr (fun p hp => h p (by omega))]
    by_cases h0 : c k = 0
    · rw [h0, Int32.add_zero]
      split <;> split <;> rfl
    · rw [h k (by omega) h0]
/-- those whose sum isn't 0 -/
def thn (c : Nat → Int32) : Nat → Nat
  | 0 => 0
  | k + 1 => if c k = 0 then thn c k else thn c k ||| 2 ^ k
theorem thn_s {c : Nat → Int32} {k : Nat} : thn c (k + 1) = if c k = 0 then thn c k else thn c k ||| 2 ^ k := rfl
theorem thn_tb {c : Nat → Int32} (i : Nat) : ∀ k, (thn c k).testBit i = (decide (i < k) && !decide (c i = 0))
  | 0 => by
    show (0 : Nat).testBit i = _
    simp
  | k + 1 => by
    have ih := thn_tb (c := c) i k
    rw [thn_s]
    by_cases e : i = k
    · subst e
      by_cases h0 : c i = 0
      · rw [if_pos h0, ih]
        simp [h0]
      · rw [if_neg h0, Nat.testBit_or, ih, Nat.testBit_two_pow]
        simp [h0]
    · have hd : decide (i < k + 1) = decide (i < k) := decide_eq_decide.mpr (by omega)
      by_cases h0 : c k = 0
      · rw [if_pos h0, ih, hd]
      · rw [if_neg h0, Nat.testBit_or, ih, Nat.testBit_two_pow, hd]
        have : ¬ k = i := fun z => e z.symm
        simp [this]
theorem cnt_eq {g g' : Nat → Bool} : ∀ {k : Nat}, (∀ p, p < k → g p = g' p) → cnt g k = cnt g' k
  | 0, _ => rfl
  | k + 1, h => by
    show cnt g k + (if g k = true then 1 else 0) = cnt g' k + (if g' k = true then 1 else 0)
    rw [cnt_eq (fun p hp => h p (by omega)), h k (by omega)]
theorem cnt_dec {g g' : Nat → Bool} {p : Nat} (h1 : g p = true) (h2 : g' p = false) (h3 : ∀ i, ¬ i = p → g i = g' i) : ∀ {k : Nat}, p < k → cnt g k = cnt g' k + 1
  | k + 1, hk => by
    show cnt g k + (if g k = true then 1 else 0) = cnt g' k + (if g' k = true then 1 else 0) + 1
    by_cases e : p = k
    · subst e
      rw [h1, h2, cnt_eq (g := g) (g' := g') (fun i hi => h3 i (by omega))]
      simp
    · rw [cnt_dec h1 h2 h3 (k := k) (by omega), h3 k (fun z => e z.symm)]
      omega
theorem cnt_add {g g' h : Nat → Bool} : ∀ {k : Nat}, (∀ p, p < k → (g p = true ∧ g' p = false ∧ h p = true) ∨ (g p = false ∧ g' p = true ∧ h p = true) ∨ (g p = false ∧ g' p = false ∧ h p = false)) → cnt h k = cnt g k + cnt g' k
  | 0, _ => rfl
  | k + 1, hh => by
    show cnt h k + (if h k = true then 1 else 0) = cnt g k + (if g k = true then 1 else 0) + (cnt g' k + (if g' k = true then 1 else 0))
    rw [cnt_add (fun p hp => hh p (by omega))]
    rcases hh k (by omega) with ⟨h1, h2, h3⟩ | ⟨h1, h2, h3⟩ | ⟨h1, h2, h3⟩ <;> rw [h1, h2, h3] <;> simp <;> omega
theorem cnt_ext {g : Nat → Bool} {m : Nat} : ∀ {k : Nat}, m ≤ k → (∀ p, m ≤ p → p < k → g p = false) → cnt g k = cnt g m
  | 0, h, _ => by
    have : m = 0 := by omega
    subst this
    rfl
  | k + 1, h, h2 => by
    by_cases e : m = k + 1
    · rw [e]
    · show cnt g k + (if g k = true then 1 else 0) = cnt g m
      rw [h2 k (by omega) (by omega), cnt_ext (by omega) (fun p h3 h4 => h2 p h3 (by omega))]
      simp
theorem nat_nz {s P : Nat} (hs : s < 2 ^ P) (h0 : ¬ s = 0) : ∃ p, p < P ∧ s.testBit p = true := by
  obtain ⟨p, hp⟩ := Nat.exists_testBit_of_ne_zero h0
  refine ⟨p, ?_, hp⟩
  apply Classical.byContradiction
  intro h
  have h1 : 2 ^ P ≤ 2 ^ p := Nat.pow_le_pow_right (by decide) (by omega)
  have h2 : s < 2 ^ p := Nat.lt_of_lt_of_le hs h1
  rw [Nat.testBit_lt_two_pow h2] at hp
  exact absurd hp (by decide)
section
variable {c : Nat → Int32} {P : Nat}
/-- how many of a set whose sum is 0 -/
def nzc (c : Nat → Int32) (P s : Nat) : Nat := cnt (fun p => s.testBit p && decide (c p = 0)) P
def zb (c : Nat → Int32) (P s : Nat) : Bool := decide (ssum c s P = 0)
def qb (T s : Nat) : Bool := decide (s &&& T = s)
theorem set_eq (hP : P ≤ 8) (s : Nat) : s < 2 ^ P → sv (fun _ => true) (zb c P) P s = sv (qb (thn c P)) (zb c P) P (s &&& thn c P) + nzc c P s := by
  induction s using Nat.strongRecOn with
  | ind s ih =>
    intro hs
    by_cases h0 : s = 0
    · subst h0
      rw [Nat.zero_and]
      have : nzc c P 0 = 0 := by
        unfold nzc
        rw [cnt_ext (m := 0) (Nat.zero_le _) (fun p _ _ => by simp)]
        rfl
      rw [this]
      rfl
    · have hz : zb c P s = zb c P (s &&& thn c P) := by
        unfold zb
        rw [ssum_congr (s := s) (t := s &&& thn c P) (fun p hp hc => ?_)]
        rw [Nat.testBit_and, thn_tb]
        simp [hp, hc]
      -- a set less one
      have hT : ∀ p, p < P → s.testBit p = true → ¬ c p = 0 → sv (fun _ => true) (zb c P) P (s ^^^ 2 ^ p) = sv (qb (thn c P)) (zb c P) P ((s &&& thn c P) ^^^ 2 ^ p) + nzc c P s := fun p hp hb hc => by
        have hl := nx_lt hb
        rw [ih _ hl (by omega)]
        have e1 : (s ^^^ 2 ^ p) &&& thn c P = (s &&& thn c P) ^^^ 2 ^ p := by
          apply Nat.eq_of_testBit_eq
          intro i
          have hb2 : (s &&& thn c P).testBit p = true := by
            rw [Nat.testBit_and, thn_tb, hb]
            simp [hp, hc]
          rw [nx_set hb2, Nat.testBit_and, nx_set hb, Nat.testBit_and]
          cases s.testBit i <;> cases (thn c P).testBit i <;> simp
        have e2 : nzc c P (s ^^^ 2 ^ p) = nzc c P s := by
          unfold nzc
          apply cnt_eq
          intro i hi
          rw [nx_set hb]
          by_cases e : i = p
          · subst e
            simp [hc]
          · simp [e]
        rw [e1, e2]
      have hN : ∀ p, p < P → s.testBit p = true → c p = 0 → sv (fun _ => true) (zb c P) P (s ^^^ 2 ^ p) + 1 = sv (qb (thn c P)) (zb c P) P (s &&& thn c P) + nzc c P s := fun p hp hb hc => by
        have hl := nx_lt hb
        rw [ih _ hl (by omega)]
        have e1 : (s ^^^ 2 ^ p) &&& thn c P = s &&& thn c P := by
          apply Nat.eq_of_testBit_eq
          intro i
          rw [Nat.testBit_and, nx_set hb, Nat.testBit_and, thn_tb]
          by_cases e : i = p
          · subst e
            simp [hc]
          · simp [e]
        have e2 : nzc c P s = nzc c P (s ^^^ 2 ^ p) + 1 := by
          unfold nzc
          refine cnt_dec (p := p) ?_ ?_ (fun i hi => ?_) hp
          · simp [hb, hc]
          · rw [nx_set hb]
            simp
          · rw [nx_set hb]
            simp [hi]
        rw [e1, e2]
        omega
      rw [sv_s (q := fun _ => true) (by omega), if_pos rfl]
      by_cases hA : s &&& thn c P = 0
      · -- none has a sum
        have hz1 : zb c P s = true := by
          rw [hz, hA]
          unfold zb
          have : ssum c 0 P = 0 := by
            have : ∀ k, ssum c 0 k = 0 := fun k => by
              induction k with
              | zero => rfl
              | succ k ih => rw [ssum_s, if_neg (by simp), ih]
            exact this P
          rw [this]
          rfl
        have hc0 : ∀ p, p < P → s.testBit p = true → c p = 0 := fun p hp hb => by
          apply Classical.byContradiction
          intro hc
          have : (s &&& thn c P).testBit p = true := by
            rw [Nat.testBit_and, thn_tb, hb]
            simp [hp, hc]
          rw [hA] at this
          simp at this
        obtain ⟨p, hp, hb⟩ := nat_nz hs h0
        rw [hz1, if_pos rfl]
        have h1 := hN p hp hb (hc0 p hp hb)
        have h2 := le_mxs (g := fun p => sv (fun _ => true) (zb c P) P (s ^^^ 2 ^ p)) hp hb
        have h3 : mxs (fun p => sv (fun _ => true) (zb c P) P (s ^^^ 2 ^ p)) s P ≤ sv (qb (thn c P)) (zb c P) P (s &&& thn c P) + nzc c P s - 1 := mxs_le (fun i hi hbi => by
          have := hN i hi hbi (hc0 i hi hbi)
          omega)
        omega
      · have hAs : s &&& thn c P < 2 ^ P := Nat.lt_of_le_of_lt Nat.and_le_left hs
        have hq : qb (thn c P) (s &&& thn c P) = true := by
          unfold qb
          rw [decide_eq_true_iff, Nat.and_assoc, Nat.and_self]
        have hM := sv_s (q := qb (thn c P)) (z := zb c P) (P := P) (s := s &&& thn c P) (by omega)
        rw [if_pos hq, ← hz] at hM
        have hbT : ∀ p, (s &&& thn c P).testBit p = true → p < P ∧ s.testBit p = true ∧ ¬ c p = 0 := fun p h => by
          rw [Nat.testBit_and, thn_tb] at h
          simp at h
          exact ⟨h.2.1, h.1, h.2.2⟩
        have hle : mxs (fun p => sv (fun _ => true) (zb c P) P (s ^^^ 2 ^ p)) s P + (if zb c P s = true then 1 else 0) ≤ sv (qb (thn c P)) (zb c P) P (s &&& thn c P) + nzc c P s := by
          have hz01 : (if zb c P s = true then 1 else 0) ≤ sv (qb (thn c P)) (zb c P) P (s &&& thn c P) := by
            rw [hM]
            omega
          have h3 : mxs (fun p => sv (fun _ => true) (zb c P) P (s ^^^ 2 ^ p)) s P ≤ sv (qb (thn c P)) (zb c P) P (s &&& thn c P) + nzc c P s - (if zb c P s = true then 1 else 0) := mxs_le (fun p hp hb => by
            by_cases hc : c p = 0
            · have := hN p hp hb hc
              split <;> omega
            · have h4 := hT p hp hb hc
              have hb2 : (s &&& thn c P).testBit p = true := by
                rw [Nat.testBit_and, thn_tb, hb]
                simp [hp, hc]
              have h5 := le_mxs (g := fun p => sv (qb (thn c P)) (zb c P) P ((s &&& thn c P) ^^^ 2 ^ p)) hp hb2
              omega)
          omega
        have hge : sv (qb (thn c P)) (zb c P) P (s &&& thn c P) + nzc c P s ≤ mxs (fun p => sv (fun _ => true) (zb c P) P (s ^^^ 2 ^ p)) s P + (if zb c P s = true then 1 else 0) := by
          have hex : ∃ p, (s &&& thn c P).testBit p = true ∧ mxs (fun p => sv (qb (thn c P)) (zb c P) P ((s &&& thn c P) ^^^ 2 ^ p)) (s &&& thn c P) P ≤ sv (qb (thn c P)) (zb c P) P ((s &&& thn c P) ^^^ 2 ^ p) := by
            rcases mxs_at (g := fun p => sv (qb (thn c P)) (zb c P) P ((s &&& thn c P) ^^^ 2 ^ p)) (s := s &&& thn c P) (k := P) with h1 | ⟨p, h1, h2, h3⟩
            · obtain ⟨p, hp, hb⟩ := nat_nz hAs hA
              exact ⟨p, hb, by rw [h1]; exact Nat.zero_le _⟩
            · exact ⟨p, h2, by rw [← h3]; exact Nat.le_refl _⟩
          obtain ⟨p, hb2, hp2⟩ := hex
          obtain ⟨hp, hb, hc⟩ := hbT p hb2
          have h4 := hT p hp hb hc
          have h5 := le_mxs (g := fun p => sv (fun _ => true) (zb c P) P (s ^^^ 2 ^ p)) hp hb
          omega
        omega
theorem set_all (hP : P ≤ 8) : nzc c P (2 ^ P - 1) + pc (thn c P) = P ∧ (2 ^ P - 1) &&& thn c P = thn c P := by
  constructor
  · have h1 : pc (thn c P) = cnt (fun i => (thn c P).testBit i) P := by
      unfold pc
      exact cnt_ext (by omega) (fun p h2 h3 => by
        rw [thn_tb]
        simp
        omega)
    have h2 : cnt (fun _ => true) P = P := by
      have : ∀ k, cnt (fun _ => true) k = k := fun k => by
        induction k with
        | zero => rfl
        | succ k ih =>
          show cnt (fun _ => true) k + (if true = true then 1 else 0) = k + 1
          rw [ih]
          rfl
      exact this P
    rw [h1]
    unfold nzc
    rw [← cnt_add (h := fun _ => true) (fun p hp => ?_), h2]
    rw [Nat.testBit_two_pow_sub_one, thn_tb]
    by_cases hc : c p = 0
    · simp [hp, hc]
    · simp [hp, hc]
  · apply Nat.eq_of_testBit_eq
    intro i
    rw [Nat.testBit_and, Nat.testBit_two_pow_sub_one, thn_tb]
    cases decide (i < P) <;> simp
end
theorem thn_lt {c : Nat → Int32} : ∀ P, thn c P < 2 ^ P
  | 0 => Nat.zero_lt_one
  | k + 1 => by
    have := thn_lt (c := c) k
    have h2 : 2 ^ (k + 1) = 2 * 2 ^ k := by rw [Nat.pow_succ, Nat.mul_comm]
    rw [thn_s]
    split
    · omega
    · exact Nat.or_lt_two_pow (by omega) (by omega)
