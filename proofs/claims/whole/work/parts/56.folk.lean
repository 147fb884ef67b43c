/-! people, debts, tallies, purely -/
theorem nI_subI {a b : Nat} (h : b ≤ a) : nI a - nI b = nI (a - b) := nI_sub h
theorem nI_min {a b : Nat} (ha : a < 2 ^ 31) (hb : b < 2 ^ 31) : (if nI b < nI a then nI b else nI a) = nI (min a b) := by
  by_cases h : b < a
  · rw [if_pos (nI_lt h ha), Nat.min_eq_right (by omega)]
  · rw [if_neg (nI_nlt (by omega) hb), Nat.min_eq_left (by omega)]
theorem nI_max {a b : Nat} (ha : a < 2 ^ 31) (hb : b < 2 ^ 31) : (if nI a < nI b then nI b else nI a) = nI (max a b) := by
  by_cases h : a < b
  · rw [if_pos (nI_lt h hb), Nat.max_eq_right (by omega)]
  · rw [if_neg (nI_nlt (by omega) ha), Nat.max_eq_left (by omega)]
/-- near one another -/
abbrev nb (x y c : Nat) : Prop := x ≤ y + c ∧ y ≤ x + c
theorem nI_subT {x y : Nat} (hx : x < 2 ^ 30) (hy : y < 2 ^ 30) : (nI x - nI y).toInt = (x : Int) - (y : Int) := by
  rw [Int32.toInt_sub, nI_toInt (by omega), nI_toInt (by omega)]
  apply Int.bmod_eq_of_le <;> omega
theorem nb_c {x y c : Nat} (hx : x < 2 ^ 20) (hy : y < 2 ^ 20) (hc : c < 2 ^ 20) : (nI x - nI y ≤ nI c ∧ -(nI x - nI y) ≤ nI c) ↔ nb x y c := by
  have e1 := nI_subT (x := x) (y := y) (by omega) (by omega)
  have e2 : (-(nI x - nI y)).toInt = (y : Int) - (x : Int) := by
    rw [Int32.neg_sub]
    exact nI_subT (by omega) (by omega)
  rw [Int32.le_iff_toInt_le, Int32.le_iff_toInt_le, e1, e2, nI_toInt (by omega)]
  omega
theorem nb_m {x y c : Nat} (hx : x < 2 ^ 20) (hy : y < 2 ^ 20) (hc : c < 2 ^ 20) : ((if nI x ≤ nI y then nI y - nI x else nI x - nI y) ≤ nI c) ↔ nb x y c := by
  by_cases h : x ≤ y
  · rw [if_pos (nI_le h (by omega)), nI_sub h, nI_leI (by omega) (by omega)]
    omega
  · rw [if_neg (nI_ge (by omega) (by omega)), nI_sub (by omega), nI_leI (by omega) (by omega)]
    omega
/-- how many of the first k are so -/
def cnt (p : Nat → Bool) : Nat → Nat
  | 0 => 0
  | k + 1 => cnt p k + (if p k = true then 1 else 0)
theorem cnt_le (p : Nat → Bool) : ∀ k, cnt p k ≤ k
  | 0 => Nat.le_refl _
  | k + 1 => by
    have := cnt_le p k
    unfold cnt
    split <;> omega
/-- who else lives near one: by the numbers f -/
def nrp (f : Nat → Nat) (o k : Nat) : Bool := decide (k ≠ o ∧ nb (f k) (f o) (f 52))
def lval (lo : Option ((Nat → Nat) × Nat)) (v h m s n e : Nat) : Int32 := match lo with
  | none => nI (v + h / 3)
  | some tn => lv tn.1 tn.2 (gv (nI v) (nI h) (nI m) (nI s) (nI n) (nI e))
def cl99 (x : Int32) : Nat := if x < 0 then 0 else if 99 < x then 99 else x.toNatClampNeg
theorem cl99_le (x : Int32) : cl99 x ≤ 99 := by
  unfold cl99
  split
  · omega
  · split
    · omega
    · rename_i h1 h2
      obtain ⟨k, hk, e⟩ := nI_of2 (M := 99) (n := 99) (by decide) h1 (Int32.not_lt.mp h2)
      rw [e, nI_clamp (by omega)]
      exact hk
theorem cl99_c (x : Int32) : (if 0 < (if x < 99 then x else 99) then (if x < 99 then x else 99) else 0) = nI (cl99 x) := by
  unfold cl99
  by_cases h1 : x < 0
  · rw [if_pos h1]
    have h2 : x < 99 := Int32.lt_of_lt_of_le h1 (by decide)
    rw [if_pos h2, if_neg (Int32.not_lt.mpr (Int32.le_of_lt h1))]
    rfl
  · rw [if_neg h1]
    by_cases h2 : 99 < x
    · rw [if_pos h2, if_neg (Int32.not_lt.mpr (Int32.le_of_lt h2)), if_pos (by decide)]
      rfl
    · rw [if_neg h2]
      obtain ⟨k, hk, e⟩ := nI_of2 (M := 99) (n := 99) (by decide) h1 (Int32.not_lt.mp h2)
      subst e
      rw [nI_clamp (by omega)]
      have e9 : (if nI k < 99 then nI k else 99) = nI k := by
        by_cases h9 : k = 99
        · subst h9
          rfl
        · rw [if_pos (show nI k < 99 from nI_lt (b := 99) (by omega) (by decide))]
      rw [e9]
      by_cases h0 : k = 0
      · subst h0
        rfl
      · rw [if_pos (show (0 : Int32) < nI k from nI_lt (a := 0) (by omega) (by omega))]
theorem cl99_m (x : Int32) : (if x < 0 then 0 else if 99 < x then 99 else x) = nI (cl99 x) := by
  unfold cl99
  by_cases h1 : x < 0
  · rw [if_pos h1, if_pos h1]
    rfl
  · rw [if_neg h1, if_neg h1]
    by_cases h2 : 99 < x
    · rw [if_pos h2, if_pos h2]
      rfl
    · rw [if_neg h2, if_neg h2]
      obtain ⟨k, hk, e⟩ := nI_of2 (M := 99) (n := 99) (by decide) h1 (Int32.not_lt.mp h2)
      subst e
      rw [nI_clamp (by omega)]
/-- by how much a song of debt e moves -/
def mvb (P : Nat) (f a b : Nat → Nat) (lo : Option ((Nat → Nat) × Nat)) (e m s v : Nat) : Nat := cl99 (lval lo (f (8 + b e)) (f (16 + a e)) m s (cnt (nrp f (a e)) P) v)
theorem mvb_le (P : Nat) (f a b : Nat → Nat) (lo : Option ((Nat → Nat) × Nat)) (e m s v : Nat) : mvb P f a b lo e m s v ≤ 99 := cl99_le _
/-- how moved, behind a song -/
def mvt (P : Nat) (f a b : Nat → Nat) (lo : Option ((Nat → Nat) × Nat)) (e m s v : Nat) : Nat := min 99 (m + mvb P f a b lo e m s v)
/-- what is paid on an evening by a tally g with a song of debt e -/
def pay (P D : Nat) (f a b : Nat → Nat) (lo : Option ((Nat → Nat) × Nat)) (g : Nat → Nat) (e : Nat) : Nat :=
  if e < D then (if mvt P f a b lo e (g (32 + a e)) (g (40 + e)) (g 53) < 20 then 0 else min (mvt P f a b lo e (g (32 + a e)) (g (40 + e)) (g 53) / 10) (min (g (40 + e)) (g (24 + a e)))) else 0
/-- a tally behind an evening -/
def psg (P D : Nat) (f a b : Nat → Nat) (lo : Option ((Nat → Nat) × Nat)) (g : Nat → Nat) (e k : Nat) : Nat :=
  if k = 53 then min 99 (g 53 + 1)
  else if e < D then
    (if k = 32 + a e then (if 0 < pay P D f a b lo g e then mvt P f a b lo e (g (32 + a e)) (g (40 + e)) (g 53) - 10 else mvt P f a b lo e (g (32 + a e)) (g (40 + e)) (g 53))
     else if 32 ≤ k ∧ k < 32 + P then g k - 1
     else if k = 40 + e ∨ k = 24 + a e then g k - pay P D f a b lo g e
     else if k = 24 + b e then min 999 (g k + pay P D f a b lo g e)
     else g k)
  else if 32 ≤ k ∧ k < 32 + P then g k - 1 else g k
/-- bounds -/
def bdf (P D : Nat) (f a b : Nat → Nat) : Prop := P ≤ 8 ∧ D ≤ 12 ∧ (∀ k, k < 54 → f k ≤ top k) ∧ ∀ e, e < D → a e < P ∧ b e < P ∧ a e ≠ b e
def bdg (g : Nat → Nat) : Prop := ∀ k, 24 ≤ k → k < 54 → k ≠ 52 → g k ≤ top k
theorem top_le (k : Nat) : top k ≤ 999 := by
  unfold top
  (repeat' split) <;> omega
theorem top_p {k : Nat} (h : 24 ≤ k ∧ k < 32) : top k = 999 := by
  unfold top
  rw [if_neg (by omega), if_neg (by omega), if_neg (by omega), if_pos (by omega)]
theorem top_m {k : Nat} (h : 32 ≤ k ∧ k < 40) : top k = 99 := by
  unfold top
  rw [if_neg (by omega), if_neg (by omega), if_neg (by omega), if_neg (by omega), if_pos (by omega)]
theorem top_s {k : Nat} (h : 40 ≤ k ∧ k < 52) : top k = 999 := by
  unfold top
  rw [if_neg (by omega), if_neg (by omega), if_neg (by omega), if_neg (by omega), if_neg (by omega), if_pos (by omega)]
theorem top_53 : top 53 = 99 := rfl
theorem pay_le {P D : Nat} {f a b : Nat → Nat} (lo : Option ((Nat → Nat) × Nat)) (g : Nat → Nat) (e : Nat) : pay P D f a b lo g e ≤ 9 ∧ (e < D → pay P D f a b lo g e ≤ g (40 + e) ∧ pay P D f a b lo g e ≤ g (24 + a e)) ∧ (e < D → 0 < pay P D f a b lo g e → 20 ≤ mvt P f a b lo e (g (32 + a e)) (g (40 + e)) (g 53)) := by
  have hm : mvt P f a b lo e (g (32 + a e)) (g (40 + e)) (g 53) ≤ 99 := Nat.min_le_left _ _
  unfold pay
  by_cases h : e < D
  · rw [if_pos h]
    by_cases h2 : mvt P f a b lo e (g (32 + a e)) (g (40 + e)) (g 53) < 20
    · rw [if_pos h2]
      exact ⟨by omega, fun _ => ⟨by omega, by omega⟩, fun _ h3 => absurd h3 (by omega)⟩
    · rw [if_neg h2]
      refine ⟨?_, fun _ => ⟨?_, ?_⟩, fun _ _ => by omega⟩
      · exact Nat.le_trans (Nat.min_le_left _ _) (by omega)
      · exact Nat.le_trans (Nat.min_le_right _ _) (Nat.min_le_left _ _)
      · exact Nat.le_trans (Nat.min_le_right _ _) (Nat.min_le_right _ _)
  · rw [if_neg h]
    exact ⟨by omega, fun z => absurd z h, fun z => absurd z h⟩
theorem psg_bd {P D : Nat} {f a b : Nat → Nat} (lo : Option ((Nat → Nat) × Nat)) {g : Nat → Nat} (hb : bdf P D f a b) (hg : bdg g) (e : Nat) : bdg (psg P D f a b lo g e) := by
  intro k k1 k2 k3
  have hm : mvt P f a b lo e (g (32 + a e)) (g (40 + e)) (g 53) ≤ 99 := Nat.min_le_left _ _
  have hgk := hg k k1 k2 k3
  obtain ⟨b1, b2, b3, b4⟩ := hb
  unfold psg
  by_cases h53 : k = 53
  · rw [if_pos h53, h53]
    exact Nat.min_le_left _ _
  · rw [if_neg h53]
    by_cases h : e < D
    · obtain ⟨c1, c2, c3⟩ := b4 e h
      rw [if_pos h]
      by_cases h1 : k = 32 + a e
      · rw [if_pos h1, h1, top_m (by omega)]
        split <;> omega
      · rw [if_neg h1]
        by_cases h2 : 32 ≤ k ∧ k < 32 + P
        · rw [if_pos h2]
          omega
        · rw [if_neg h2]
          by_cases h3 : k = 40 + e ∨ k = 24 + a e
          · rw [if_pos h3]
            omega
          · rw [if_neg h3]
            by_cases h4 : k = 24 + b e
            · rw [if_pos h4, h4, top_p (by omega)]
              exact Nat.min_le_left _ _
            · rw [if_neg h4]
              exact hgk
    · rw [if_neg h]
      split <;> omega
/-- the class's people and debts, but for what evenings change -/
def cFo (P D : Nat) (f a b : Nat → Nat) (I : sm_I) : Prop := I 34 6 = nI P ∧ I 34 7 = nI D ∧ I 34 8 = nI (f 52) ∧ (∀ p, p < 8 → I 35 p = nI (f p) ∧ I 36 p = nI (f (8 + p)) ∧ I 37 p = nI (f (16 + p))) ∧ ∀ e, e < D → I 38 e = nI (a e) ∧ I 39 e = nI (b e)
/-- a tally of the class -/
def cTa (q : Nat) (g : Nat → Nat) (I : sm_I) : Prop := (∀ p, p < 8 → I (q + 1) p = nI (g (24 + p)) ∧ I (q + 2) p = nI (g (32 + p))) ∧ (∀ e, e < 12 → I (q + 3) e = nI (g (40 + e))) ∧ I q 3 = nI (g 53)
def cLw (lo : Option ((Nat → Nat) × Nat)) (I : sm_I) : Prop := match lo with
  | none => I 27 3 = 0
  | some tn => clw tn.1 tn.2 I
def tq (q : Nat) : Prop := q = 40 ∨ q = 44 ∨ q = 49 ∨ q = 64 ∨ q = 68 ∨ q = 72 ∨ q = 76
theorem tq_k {q : Nat} (h : tq q) : sm_kc q = (0, 8) ∧ sm_rf q 0 = q + 1 ∧ sm_rf q 1 = q + 2 ∧ sm_rf q 2 = q + 3 ∧ sm_kc (q + 1) = (1, 8) ∧ sm_kc (q + 2) = (1, 8) ∧ sm_kc (q + 3) = (1, 12) := by
  rcases h with rfl | rfl | rfl | rfl | rfl | rfl | rfl
  · exact ⟨kc40, rf40_0, rf40_1, rf40_2, kc41, kc42, kc43⟩
  · exact ⟨kc44, rf44_0, rf44_1, rf44_2, kc45, kc46, kc47⟩
  · exact ⟨kc49, rf49_0, rf49_1, rf49_2, kc50, kc51, kc52⟩
  · exact ⟨kc64, rf64_0, rf64_1, rf64_2, kc65, kc66, kc67⟩
  · exact ⟨kc68, rf68_0, rf68_1, rf68_2, kc69, kc70, kc71⟩
  · exact ⟨kc72, rf72_0, rf72_1, rf72_2, kc73, kc74, kc75⟩
  · exact ⟨kc76, rf76_0, rf76_1, rf76_2, kc77, kc78, kc79⟩
