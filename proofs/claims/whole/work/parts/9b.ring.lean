/-! round, purely: of debts that balance the fewest are a single ring -/
section
variable {a b : Nat → Nat} {D : Nat}
/-- how many of a set go out of p -/
def oc (a : Nat → Nat) (D s p : Nat) : Nat := cnt (fun e => s.testBit e && decide (a e = p)) D
def bal (a b : Nat → Nat) (D s : Nat) : Prop := ∀ p, oc a D s p = oc b D s p
def sb (x y : Nat) : Prop := ∀ i, x.testBit i = true → y.testBit i = true
theorem oc_split {x y : Nat} (h : sb x y) (p : Nat) : oc a D y p = oc a D x p + oc a D (y ^^^ x) p := by
  unfold oc
  refine cnt_add (fun e he => ?_)
  rw [Nat.testBit_xor]
  have h1 := h e
  cases hx : x.testBit e with
  | true =>
    rw [h1 hx]
    by_cases hp : a e = p
    · exact Or.inl ⟨by simp [hp], by simp, by simp [hp]⟩
    · exact Or.inr (Or.inr ⟨by simp [hp], by simp, by simp [hp]⟩)
  | false =>
    cases hy : y.testBit e with
    | true =>
      by_cases hp : a e = p
      · exact Or.inr (Or.inl ⟨by simp, by simp [hp], by simp [hp]⟩)
      · exact Or.inr (Or.inr ⟨by simp, by simp [hp], by simp [hp]⟩)
    | false => exact Or.inr (Or.inr ⟨by simp, by simp, by simp⟩)
theorem oc_one {k : Nat} (hk : k < D) (p : Nat) : oc a D (2 ^ k) p = if a k = p then 1 else 0 := by
  have h0 : ∀ j, cnt (fun _ => false) j = 0 := fun j => by
    induction j with
    | zero => rfl
    | succ j ih =>
      show cnt (fun _ => false) j + (if false = true then 1 else 0) = 0
      rw [ih]
      rfl
  unfold oc
  by_cases hp : a k = p
  · rw [if_pos hp, cnt_dec (p := k) (g' := fun _ => false) ?_ rfl (fun i hi => ?_) hk, h0]
    · rw [Nat.testBit_two_pow]
      simp [hp]
    · have : ¬ k = i := fun z => hi z.symm
      rw [Nat.testBit_two_pow]
      simp [this]
  · rw [if_neg hp, cnt_eq (g' := fun _ => false) (fun i hi => ?_), h0]
    rw [Nat.testBit_two_pow]
    by_cases e : k = i
    · subst e
      simp [hp]
    · simp [e]
theorem sb_or (x k : Nat) : sb x (x ||| 2 ^ k) := fun i hi => by
  rw [Nat.testBit_or, hi]
  rfl
theorem or_xor {x k : Nat} (h : x.testBit k = false) : (x ||| 2 ^ k) ^^^ x = 2 ^ k := by
  apply Nat.eq_of_testBit_eq
  intro i
  rw [Nat.testBit_xor, Nat.testBit_or, Nat.testBit_two_pow]
  by_cases e : k = i
  · subst e
    simp [h]
  · simp [e]
theorem oc_add {x k : Nat} (hk : k < D) (h : x.testBit k = false) (p : Nat) : oc a D (x ||| 2 ^ k) p = oc a D x p + if a k = p then 1 else 0 := by
  rw [oc_split (sb_or x k), or_xor h, oc_one hk]
/-- a walk from p to q over a set -/
def wk (a b : Nat → Nat) (D U p q : Nat) : Prop := ∀ v, oc a D U v + (if q = v then 1 else 0) = oc b D U v + if p = v then 1 else 0
def nxt (a : Nat → Nat) (L v : Nat) : Nat → Option Nat
  | 0 => none
  | k + 1 => if L.testBit k = true ∧ a k = v then some k else nxt a L v k
theorem nxt_s {L v k : Nat} : nxt a L v (k + 1) = if L.testBit k = true ∧ a k = v then some k else nxt a L v k := rfl
theorem nxt_some {L v : Nat} : ∀ {k j : Nat}, nxt a L v k = some j → j < k ∧ L.testBit j = true ∧ a j = v
  | k + 1, j, h => by
    rw [nxt_s] at h
    split at h
    · rename_i h1
      cases h
      exact ⟨by omega, h1⟩
    · obtain ⟨h1, h2⟩ := nxt_some h
      exact ⟨by omega, h2⟩
theorem nxt_none {L v : Nat} : ∀ {k : Nat}, nxt a L v k = none → ∀ e, e < k → L.testBit e = true → ¬ a e = v
  | k + 1, h, e, he, h1, h2 => by
    rw [nxt_s] at h
    split at h
    · cases h
    · rename_i h3
      by_cases hek : e = k
      · subst hek
        exact h3 ⟨h1, h2⟩
      · exact nxt_none h e (by omega) h1 h2
def wlk (a b : Nat → Nat) (D q : Nat) : Nat → Nat → Nat → Nat → Bool
  | 0, _, _, _ => false
  | n + 1, d, L, S => if b d = q then decide (L = 0) else if S.testBit (b d) = true then false else match nxt a L (b d) D with
    | none => false
    | some k => wlk a b D q n k (L ^^^ 2 ^ k) (S ||| 2 ^ b d)
theorem wlk_s {q n d L S : Nat} : wlk a b D q (n + 1) d L S = if b d = q then decide (L = 0) else if S.testBit (b d) = true then false else match nxt a L (b d) D with
    | none => false
    | some k => wlk a b D q n k (L ^^^ 2 ^ k) (S ||| 2 ^ b d) := rfl
theorem xor_or {s U k : Nat} (h : (s ^^^ U).testBit k = true) (hu : U.testBit k = false) : (s ^^^ U) ^^^ 2 ^ k = s ^^^ (U ||| 2 ^ k) := by
  apply Nat.eq_of_testBit_eq
  intro i
  rw [Nat.testBit_xor, Nat.testBit_xor, Nat.testBit_xor, Nat.testBit_or, Nat.testBit_two_pow]
  by_cases e : k = i
  · subst e
    rw [Nat.testBit_xor, hu] at h
    simp at h
    simp [hu, h]
  · simp [e]
theorem left_of {s U k : Nat} (hU : sb U s) (h : (s ^^^ U).testBit k = true) : s.testBit k = true ∧ U.testBit k = false := by
  rw [Nat.testBit_xor] at h
  cases hu : U.testBit k with
  | false =>
    rw [hu] at h
    simp at h
    exact ⟨h, rfl⟩
  | true =>
    rw [hu, hU k hu] at h
    exact absurd h (by decide)
theorem wk_add {U q d k : Nat} (hk : k < D) (hu : U.testBit k = false) (ha : a k = b d) (hw : wk a b D U q (b d)) : wk a b D (U ||| 2 ^ k) q (b k) := fun v => by
  have h1 := hw v
  rw [oc_add hk hu, oc_add hk hu, ha]
  omega
theorem pcn_dec {L k : Nat} (hk : k < 12) (h : L.testBit k = true) : pc L = pc (L ^^^ 2 ^ k) + 1 := by
  unfold pc
  refine cnt_dec (p := k) h ?_ (fun i hi => ?_) hk
  · rw [nx_set h]
    simp
  · rw [nx_set h]
    simp [hi]
/-- a ring balances -/
theorem wlk_bal {s q : Nat} (hD : D ≤ 12) : ∀ {n d U S : Nat}, sb U s → wk a b D U q (b d) → wlk a b D q n d (s ^^^ U) S = true → bal a b D s
  | n + 1, d, U, S, hU, hw, h => by
    rw [wlk_s] at h
    by_cases h1 : b d = q
    · rw [if_pos h1, decide_eq_true_iff] at h
      have hs : s = U := by
        apply Nat.eq_of_testBit_eq
        intro i
        have : (s ^^^ U).testBit i = false := by rw [h]; simp
        rw [Nat.testBit_xor] at this
        cases hx : s.testBit i <;> cases hy : U.testBit i <;> simp [hx, hy] at this ⊢
      intro p
      have := hw p
      rw [h1] at this
      rw [hs]
      omega
    · rw [if_neg h1] at h
      by_cases h2 : S.testBit (b d) = true
      · rw [if_pos h2] at h
        exact absurd h (by decide)
      · rw [if_neg h2] at h
        cases hn : nxt a (s ^^^ U) (b d) D with
        | none =>
          rw [hn] at h
          dsimp only at h
          exact absurd h (by decide)
        | some k =>
          rw [hn] at h
          dsimp only at h
          obtain ⟨k1, k2, k3⟩ := nxt_some hn
          obtain ⟨l1, l2⟩ := left_of hU k2
          rw [xor_or k2 l2] at h
          refine wlk_bal hD (fun i hi => ?_) (wk_add k1 l2 k3 hw) h
          rw [Nat.testBit_or, Bool.or_eq_true] at hi
          rcases hi with hi | hi
          · exact hU i hi
          · rw [Nat.testBit_two_pow, decide_eq_true_iff] at hi
            subst hi
            exact l1
/-- what balances and isn't a ring has less within it that balances -/
theorem wlk_sub {s q fi : Nat} (hD : D ≤ 12) (hs : s < 2 ^ D) (hb : bal a b D s) : ∀ {n d U S : Nat}, pc (s ^^^ U) < n → sb U s → U.testBit fi = true → U.testBit d = true → wk a b D U q (b d) →
    (∀ v, S.testBit v = true → v = q ∨ ∃ U1, sb U1 U ∧ U1.testBit fi = true ∧ U1.testBit d = false ∧ wk a b D U1 q v) →
    wlk a b D q n d (s ^^^ U) S = false → ∃ t, sb t s ∧ ¬ t = 0 ∧ ¬ t = s ∧ bal a b D t
  | 0, d, U, S, hn, _, _, _, _, _, _ => absurd hn (Nat.not_lt_zero _)
  | n + 1, d, U, S, hn, hU, hf, hd, hw, hS, h => by
    rw [wlk_s] at h
    by_cases h1 : b d = q
    · rw [if_pos h1, decide_eq_false_iff_not] at h
      refine ⟨U, hU, fun z => ?_, fun z => h ?_, fun p => ?_⟩
      · rw [z] at hf
        simp at hf
      · rw [z, Nat.xor_self]
      · have := hw p
        rw [h1] at this
        omega
    · rw [if_neg h1] at h
      by_cases h2 : S.testBit (b d) = true
      · rcases hS (b d) h2 with h3 | ⟨U1, u1, u2, u3, u4⟩
        · exact absurd h3 h1
        · have hx : (U ^^^ U1).testBit d = true := by
            rw [Nat.testBit_xor, hd, u3]
            rfl
          have hy : (U ^^^ U1).testBit fi = false := by
            rw [Nat.testBit_xor, hf, u2]
            rfl
          refine ⟨U ^^^ U1, fun i hi => ?_, fun z => ?_, fun z => ?_, fun p => ?_⟩
          · rw [Nat.testBit_xor] at hi
            cases hi1 : U.testBit i with
            | true => exact hU i hi1
            | false =>
              cases hi2 : U1.testBit i with
              | true => rw [u1 i hi2] at hi1; exact absurd hi1 (by decide)
              | false => rw [hi1, hi2] at hi; exact absurd hi (by decide)
          · rw [z] at hx
            simp at hx
          · rw [z, hU fi hf] at hy
            exact absurd hy (by decide)
          · have e1 := hw p
            have e2 := u4 p
            have e3 := oc_split (a := a) (D := D) u1 p
            have e4 := oc_split (a := b) (D := D) u1 p
            omega
      · rw [if_neg h2] at h
        cases hx : nxt a (s ^^^ U) (b d) D with
        | none =>
          exfalso
          have e1 := hw (b d)
          have e2 := oc_split (a := a) (D := D) hU (b d)
          have e3 := oc_split (a := b) (D := D) hU (b d)
          have e4 := hb (b d)
          have e5 : oc a D (s ^^^ U) (b d) = 0 := by
            have h0 : ∀ j, cnt (fun _ => false) j = 0 := fun j => by
              induction j with
              | zero => rfl
              | succ j ih =>
                show cnt (fun _ => false) j + (if false = true then 1 else 0) = 0
                rw [ih]
                rfl
            unfold oc
            rw [cnt_eq (g' := fun _ => false) (fun i hi => ?_), h0]
            cases hl : (s ^^^ U).testBit i with
            | false => rfl
            | true =>
              have := nxt_none hx i hi hl
              simp [this]
          rw [if_pos rfl, if_neg (fun z => h1 z.symm)] at e1
          omega
        | some k =>
          rw [hx] at h
          dsimp only at h
          obtain ⟨k1, k2, k3⟩ := nxt_some hx
          obtain ⟨l1, l2⟩ := left_of hU k2
          rw [xor_or k2 l2] at h
          have hpc := pcn_dec (show k < 12 by omega) k2
          rw [xor_or k2 l2] at hpc
          have hdk : ¬ d = k := fun z => by
            rw [z, l2] at hd
            exact absurd hd (by decide)
          refine wlk_sub hD hs hb (by omega) (fun i hi => ?_) (sb_or U k fi hf) ?_ (wk_add k1 l2 k3 hw) (fun v hv => ?_) h
          · rw [Nat.testBit_or, Bool.or_eq_true] at hi
            rcases hi with hi | hi
            · exact hU i hi
            · rw [Nat.testBit_two_pow, decide_eq_true_iff] at hi
              subst hi
              exact l1
          · rw [Nat.testBit_or, Nat.testBit_two_pow]
            simp
          · rw [Nat.testBit_or, Bool.or_eq_true] at hv
            rcases hv with hv | hv
            · rcases hS v hv with h3 | ⟨U1, u1, u2, u3, u4⟩
              · exact Or.inl h3
              · refine Or.inr ⟨U1, fun i hi => sb_or U k i (u1 i hi), u2, ?_, u4⟩
                cases hz : U1.testBit k with
                | false => rfl
                | true => rw [u1 k hz] at l2; exact absurd l2 (by decide)
            · rw [Nat.testBit_two_pow, decide_eq_true_iff] at hv
              subst hv
              exact Or.inr ⟨U, sb_or U k, hf, l2, hw⟩
/-- the first of a set -/
def fst1 (s : Nat) : Nat → Nat → Nat
  | 0, i => i
  | n + 1, i => if s.testBit i = true then i else fst1 s n (i + 1)
theorem fst1_ok {s : Nat} : ∀ {n i : Nat}, (∃ j, i ≤ j ∧ j < i + n ∧ s.testBit j = true) → s.testBit (fst1 s n i) = true ∧ i ≤ fst1 s n i ∧ fst1 s n i < i + n
  | 0, i, ⟨j, h1, h2, _⟩ => by omega
  | n + 1, i, ⟨j, h1, h2, h3⟩ => by
    show s.testBit (if s.testBit i = true then i else fst1 s n (i + 1)) = true ∧ i ≤ (if s.testBit i = true then i else fst1 s n (i + 1)) ∧ (if s.testBit i = true then i else fst1 s n (i + 1)) < i + (n + 1)
    by_cases h : s.testBit i = true
    · rw [if_pos h]
      exact ⟨h, Nat.le_refl _, by omega⟩
    · rw [if_neg h]
      have hij : ¬ i = j := fun z => h (by rw [z]; exact h3)
      obtain ⟨a1, a2, a3⟩ := fst1_ok (s := s) (n := n) (i := i + 1) ⟨j, by omega, by omega, h3⟩
      exact ⟨a1, by omega, by omega⟩
/-- whether the reference calls it a ring -/
def grd (a b : Nat → Nat) (D s : Nat) : Bool := wlk a b D (a (fst1 s D 0)) 13 (fst1 s D 0) (s ^^^ 2 ^ fst1 s D 0) (2 ^ a (fst1 s D 0))
theorem wk_one {k : Nat} (hk : k < D) : wk a b D (2 ^ k) (a k) (b k) := fun v => by
  rw [oc_one hk, oc_one hk]
  omega
theorem grd_bal (hD : D ≤ 12) {s : Nat} (hs : s < 2 ^ D) (h0 : ¬ s = 0) (h : grd a b D s = true) : bal a b D s := by
  obtain ⟨p, hp, hb⟩ := nat_nz hs h0
  obtain ⟨f1, f2, f3⟩ := fst1_ok (s := s) (n := D) (i := 0) ⟨p, Nat.zero_le _, by omega, hb⟩
  unfold grd at h
  refine wlk_bal hD (fun i hi => ?_) (wk_one (by omega)) h
  rw [Nat.testBit_two_pow, decide_eq_true_iff] at hi
  subst hi
  exact f1
theorem grd_sub (hD : D ≤ 12) {s : Nat} (hs : s < 2 ^ D) (h0 : ¬ s = 0) (hb : bal a b D s) (h : grd a b D s = false) : ∃ t, sb t s ∧ ¬ t = 0 ∧ ¬ t = s ∧ bal a b D t := by
  obtain ⟨p, hp, hbp⟩ := nat_nz hs h0
  obtain ⟨f1, f2, f3⟩ := fst1_ok (s := s) (n := D) (i := 0) ⟨p, Nat.zero_le _, by omega, hbp⟩
  unfold grd at h
  refine wlk_sub (fi := fst1 s D 0) hD hs hb (by have := pc_le (s ^^^ 2 ^ fst1 s D 0); omega) (fun i hi => ?_) ?_ ?_ (wk_one (by omega)) (fun v hv => ?_) h
  · rw [Nat.testBit_two_pow, decide_eq_true_iff] at hi
    subst hi
    exact f1
  · rw [Nat.testBit_two_pow]
    simp
  · rw [Nat.testBit_two_pow]
    simp
  · rw [Nat.testBit_two_pow, decide_eq_true_iff] at hv
    exact Or.inl hv.symm
/-- the first of the fewest -/
def mrg (ok : Nat → Bool) : Nat → Option Nat
  | 0 => none
  | s + 1 => match mrg ok s with
    | none => if ok s = true then some s else none
    | some t => if ok s = true ∧ pc s < pc t then some s else some t
theorem mrg_s {ok : Nat → Bool} {s : Nat} : mrg ok (s + 1) = match mrg ok s with
    | none => if ok s = true then some s else none
    | some t => if ok s = true ∧ pc s < pc t then some s else some t := rfl
theorem mrg_le {ok : Nat → Bool} : ∀ {n t : Nat}, t < n → ok t = true → ∃ u, mrg ok n = some u ∧ pc u ≤ pc t
  | n + 1, t, h1, h2 => by
    rw [mrg_s]
    by_cases e : t = n
    · subst e
      cases hm : mrg ok t with
      | none => exact ⟨t, by dsimp only; rw [if_pos h2], Nat.le_refl _⟩
      | some u =>
        dsimp only
        by_cases h3 : pc t < pc u
        · exact ⟨t, by rw [if_pos ⟨h2, h3⟩], Nat.le_refl _⟩
        · exact ⟨u, by rw [if_neg (fun z => h3 z.2)], by omega⟩
    · obtain ⟨u, u1, u2⟩ := mrg_le (show t < n by omega) h2
      rw [u1]
      dsimp only
      split
      · rename_i h3
        exact ⟨n, rfl, by omega⟩
      · exact ⟨u, rfl, u2⟩
theorem mrg_in {ok : Nat → Bool} : ∀ {n t : Nat}, mrg ok n = some t → t < n ∧ ok t = true
  | n + 1, t, h => by
    rw [mrg_s] at h
    cases hm : mrg ok n with
    | none =>
      rw [hm] at h
      dsimp only at h
      split at h
      · rename_i h1
        cases h
        exact ⟨by omega, h1⟩
      · cases h
    | some u =>
      rw [hm] at h
      dsimp only at h
      obtain ⟨i1, i2⟩ := mrg_in hm
      split at h
      · rename_i h1
        cases h
        exact ⟨by omega, h1.1⟩
      · cases h
        exact ⟨by omega, i2⟩
theorem pc_sub {t s : Nat} (h : sb t s) (hne : ¬ t = s) (hs : s < 4096) : t < s ∧ pc t < pc s := by
  have h1 : t &&& s = t := by
    apply Nat.eq_of_testBit_eq
    intro i
    rw [Nat.testBit_and]
    cases hi : t.testBit i with
    | false => rfl
    | true => rw [h i hi]; rfl
  have h2 : t &&& s ≤ s := Nat.and_le_right
  rw [h1] at h2
  refine ⟨by omega, ?_⟩
  obtain ⟨i, hi⟩ : ∃ i, ¬ t.testBit i = s.testBit i := by
    apply Classical.byContradiction
    intro z
    exact hne (Nat.eq_of_testBit_eq (fun i => Classical.byContradiction (fun y => z ⟨i, y⟩)))
  have hsi : s.testBit i = true := by
    cases h3 : s.testBit i with
    | true => rfl
    | false =>
      exfalso
      cases h4 : t.testBit i with
      | true => rw [h i h4] at h3; exact absurd h3 (by decide)
      | false => exact hi (by rw [h3, h4])
  have hti : t.testBit i = false := by
    cases h4 : t.testBit i with
    | false => rfl
    | true => exact absurd (by rw [h4, hsi]) hi
  have hi12 : i < 12 := by
    apply Classical.byContradiction
    intro z
    have h5 : s < 2 ^ i := Nat.lt_of_lt_of_le (show s < 2 ^ 12 from hs) (Nat.pow_le_pow_right (by decide) (by omega))
    rw [Nat.testBit_lt_two_pow h5] at hsi
    exact absurd hsi (by decide)
  have h6 := pcn_dec hi12 hsi
  have h7 : pc t ≤ pc (s ^^^ 2 ^ i) := by
    unfold pc
    refine cnt_mono (fun p hp hg => ?_)
    rw [nx_set hsi]
    have : ¬ p = i := fun z => by
      rw [z, hti] at hg
      exact absurd hg (by decide)
    simp [this, h p hg]
  omega
theorem mrg_eq (hD : D ≤ 12) {Q okc okm : Nat → Bool} (hQ : ∀ s t, sb t s → Q s = true → Q t = true) (hc : ∀ s, s < 2 ^ D → (okc s = true ↔ ¬ s = 0 ∧ Q s = true ∧ bal a b D s)) (hm : ∀ s, s < 2 ^ D → (okm s = true ↔ ¬ s = 0 ∧ Q s = true ∧ grd a b D s = true)) : ∀ n, n ≤ 2 ^ D → mrg okc n = mrg okm n
  | 0, _ => rfl
  | s + 1, hs => by
    have hp := p2_le hD
    have ih := mrg_eq hD hQ hc hm s (by omega)
    rw [mrg_s, mrg_s, ← ih]
    have hcs := hc s (by omega)
    have hms := hm s (by omega)
    by_cases h1 : okm s = true
    · obtain ⟨m1, m2, m3⟩ := hms.mp h1
      have h2 : okc s = true := hcs.mpr ⟨m1, m2, grd_bal hD (by omega) m1 m3⟩
      rw [h1, h2]
    · by_cases h2 : okc s = true
      · obtain ⟨m1, m2, m3⟩ := hcs.mp h2
        have h3 : grd a b D s = false := by
          cases hx : grd a b D s with
          | false => rfl
          | true => exact absurd (hms.mpr ⟨m1, m2, hx⟩) h1
        obtain ⟨t, t1, t2, t3, t4⟩ := grd_sub hD (by omega) m1 m3 h3
        obtain ⟨l1, l2⟩ := pc_sub t1 t3 (by omega)
        obtain ⟨u, u1, u2⟩ := mrg_le (ok := okc) l1 ((hc t (by omega)).mpr ⟨t2, hQ s t t1 m2, t4⟩)
        rw [u1]
        dsimp only
        rw [if_neg (fun z => by omega), if_neg (fun z => h1 z.1)]
      · have h2' : okc s = false := by
          cases hx : okc s with
          | false => rfl
          | true => exact absurd hx h2
        have h1' : okm s = false := by
          cases hx : okm s with
          | false => rfl
          | true => exact absurd hx h1
        rw [h1', h2']
/-- numbers by their digits -/
def dgv (c : Nat → Nat) : Nat → Nat
  | 0 => 0
  | n + 1 => dgv c n + c n * 16 ^ n
theorem dgv_lt {c : Nat → Nat} (h : ∀ p, c p ≤ 15) : ∀ n, dgv c n < 16 ^ n
  | 0 => Nat.zero_lt_one
  | n + 1 => by
    have h1 := dgv_lt h n
    have h2 := h n
    show dgv c n + c n * 16 ^ n < 16 ^ (n + 1)
    rw [Nat.pow_succ]
    have : c n * 16 ^ n ≤ 15 * 16 ^ n := Nat.mul_le_mul_right _ h2
    omega
theorem dgv_inj {c e : Nat → Nat} (hc : ∀ p, c p ≤ 15) (he : ∀ p, e p ≤ 15) : ∀ n, dgv c n = dgv e n → ∀ p, p < n → c p = e p
  | 0, _, p, hp => absurd hp (Nat.not_lt_zero _)
  | n + 1, h, p, hp => by
    have h1 := dgv_lt hc n
    have h2 := dgv_lt he n
    have hpos : 0 < 16 ^ n := Nat.pow_pos (by decide)
    have h3 : dgv c n + c n * 16 ^ n = dgv e n + e n * 16 ^ n := h
    have h4 : c n = e n := by
      have e1 : (dgv c n + c n * 16 ^ n) / 16 ^ n = c n := by rw [Nat.add_mul_div_right _ _ hpos, Nat.div_eq_of_lt h1, Nat.zero_add]
      have e2 : (dgv e n + e n * 16 ^ n) / 16 ^ n = e n := by rw [Nat.add_mul_div_right _ _ hpos, Nat.div_eq_of_lt h2, Nat.zero_add]
      rw [← e1, h3, e2]
    by_cases hpn : p = n
    · rw [hpn, h4]
    · rw [h4] at h3
      exact dgv_inj hc he n (by omega) p (by omega)
theorem dgv_add {c e : Nat → Nat} {q : Nat} (h : ∀ p, e p = c p + if q = p then 1 else 0) : ∀ n, dgv e n = dgv c n + if q < n then 16 ^ q else 0
  | 0 => rfl
  | n + 1 => by
    show dgv e n + e n * 16 ^ n = dgv c n + c n * 16 ^ n + _
    rw [dgv_add h n, h n]
    by_cases hq : q = n
    · subst hq
      rw [if_pos rfl, if_neg (Nat.lt_irrefl _), if_pos (Nat.lt_succ_self _), Nat.add_mul, Nat.one_mul]
      omega
    · rw [if_neg hq, Nat.add_zero]
      by_cases h1 : q < n
      · rw [if_pos h1, if_pos (by omega)]
        omega
      · rw [if_neg h1, if_neg (by omega)]
        omega
theorem dgv_zero {c : Nat → Nat} (h : ∀ p, c p = 0) : ∀ n, dgv c n = 0
  | 0 => rfl
  | n + 1 => by
    show dgv c n + c n * 16 ^ n = 0
    rw [dgv_zero h n, h n, Nat.zero_mul]
/-- what the class adds up -/
def evs (a : Nat → Nat) (s : Nat) : Nat → Nat
  | 0 => 0
  | k + 1 => if s.testBit k = true then evs a s k + 16 ^ a k else evs a s k
theorem evs_s {s k : Nat} : evs a s (k + 1) = if s.testBit k = true then evs a s k + 16 ^ a k else evs a s k := rfl
theorem evs_dgv {s : Nat} : ∀ k, (∀ e, e < k → a e < 8) → evs a s k = dgv (oc a k s) 8
  | 0, _ => (dgv_zero (fun p => rfl) 8).symm
  | k + 1, h => by
    have ih := evs_dgv (s := s) k (fun e he => h e (by omega))
    have hk := h k (by omega)
    rw [evs_s]
    cases hb : s.testBit k with
    | true =>
      rw [if_pos rfl, dgv_add (c := oc a k s) (e := oc a (k + 1) s) (q := a k) (fun p => ?_), if_pos hk, ih]
      show cnt _ k + (if (s.testBit k && decide (a k = p)) = true then 1 else 0) = _
      rw [hb]
      unfold oc
      by_cases hp : a k = p
      · simp [hp]
      · simp [hp]
    | false =>
      rw [if_neg (by decide), ih]
      have : oc a (k + 1) s = oc a k s := by
        funext p
        show cnt _ k + (if (s.testBit k && decide (a k = p)) = true then 1 else 0) = _
        rw [hb]
        unfold oc
        simp
      rw [this]
theorem evs_bal (hD : D ≤ 12) (ha : ∀ e, e < D → a e < 8 ∧ b e < 8) {s : Nat} : evs a s D = evs b s D ↔ bal a b D s := by
  rw [evs_dgv D (fun e he => (ha e he).1), evs_dgv D (fun e he => (ha e he).2)]
  have ca : ∀ p, oc a D s p ≤ 15 := fun p => by
    have := cnt_le (fun e => s.testBit e && decide (a e = p)) D
    unfold oc
    omega
  have cb : ∀ p, oc b D s p ≤ 15 := fun p => by
    have := cnt_le (fun e => s.testBit e && decide (b e = p)) D
    unfold oc
    omega
  have hz : ∀ (g : Nat → Nat) (p : Nat), 8 ≤ p → (∀ e, e < D → g e < 8) → oc g D s p = 0 := fun g p hp hg => by
    have h0 : ∀ j, cnt (fun _ => false) j = 0 := fun j => by
      induction j with
      | zero => rfl
      | succ j ih =>
        show cnt (fun _ => false) j + (if false = true then 1 else 0) = 0
        rw [ih]
        rfl
    unfold oc
    rw [cnt_eq (g' := fun _ => false) (fun i hi => ?_), h0]
    have := hg i hi
    have : ¬ g i = p := by omega
    simp [this]
  constructor
  · intro h p
    by_cases hp : p < 8
    · exact dgv_inj ca cb 8 h p hp
    · rw [hz a p (by omega) (fun e he => (ha e he).1), hz b p (by omega) (fun e he => (ha e he).2)]
  · intro h
    have : oc a D s = oc b D s := funext h
    rw [this]
theorem evs_lt (hD : D ≤ 12) (ha : ∀ e, e < D → a e < 8) {s : Nat} : evs a s D < 2 ^ 32 := by
  rw [evs_dgv D ha]
  have := dgv_lt (c := oc a D s) (fun p => by
    have := cnt_le (fun e => s.testBit e && decide (a e = p)) D
    unfold oc
    omega) 8
  exact Nat.lt_of_lt_of_le this (by decide)
end
