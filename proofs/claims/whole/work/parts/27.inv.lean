/-! what holds between two calls: groups of places -/
theorem uI_at (I : sm_I) (q k : Nat) (v : Int32) (a b : Nat) : sm_uI I q k v a b = if a = q ∧ b = k then v else I a b := by unfold sm_uI; rfl
theorem uJ_at (J : sm_J) (q k : Nat) (v : Int64) (a b : Nat) : sm_uJ J q k v a b = if a = q ∧ b = k then v else J a b := by unfold sm_uJ; rfl
theorem uI_s (I : sm_I) (q k : Nat) (v : Int32) : sm_uI I q k v q k = v := by unfold sm_uI; simp
theorem uI_o (I : sm_I) {q k a b : Nat} (v : Int32) (h : ¬ (a = q ∧ b = k)) : sm_uI I q k v a b = I a b := by unfold sm_uI; rw [if_neg h]
theorem uI_q (I : sm_I) {q k a b : Nat} (v : Int32) (h : ¬ a = q) : sm_uI I q k v a b = I a b := uI_o I v (fun z => h z.1)
theorem uJ_s (J : sm_J) (q k : Nat) (v : Int64) : sm_uJ J q k v q k = v := by unfold sm_uJ; simp
theorem uJ_o (J : sm_J) {q k a b : Nat} (v : Int64) (h : ¬ (a = q ∧ b = k)) : sm_uJ J q k v a b = J a b := by unfold sm_uJ; rw [if_neg h]
/-- to which group a place belongs; 0: it may hold anything between two calls -/
def rg (q b : Nat) : Nat :=
  if q < 26 then 1 else if q = 27 ∨ q = 28 then 5 else if q = 31 then (if b = 2 then 4 else 0) else if q = 33 then 4
  else if q < 34 then 0 else if q < 44 then 2 else if q < 48 then 0 else if q < 54 then 6 else if q < 59 then 3 else if q = 59 then 6
  else if q < 87 then 0 else if q < 90 then 7 else if q < 91 then 0 else if q < 103 then 8
  else if q = 103 then (if b = 4 ∨ b = 5 then 3 else if b = 6 ∨ b = 7 then 2 else if b = 11 then 4 else if b = 13 then 5 else if b = 33 ∨ b = 34 ∨ b = 35 then 6 else if b = 38 ∨ b = 41 then 7 else 0)
  else if q = 104 ∨ q = 108 ∨ q = 109 then 2 else if q < 108 then 3 else if q = 110 then 4 else if q = 111 then 5
  else if q = 117 then 3 else if q < 121 then 0 else if q < 124 then 6 else if q < 126 then 7 else if q < 128 then 8 else 0
/-- nothing but group g (and 0) has changed -/
def ag (g : Nat) (I I' : sm_I) : Prop := ∀ q b : Nat, rg q b ≠ 0 → rg q b ≠ g → I' q b = I q b
theorem ag_refl (g : Nat) (I : sm_I) : ag g I I := fun _ _ _ _ => rfl
theorem ag_trans {g : Nat} {I I1 I2 : sm_I} (h1 : ag g I I1) (h2 : ag g I1 I2) : ag g I I2 := fun q b h0 hg => (h2 q b h0 hg).trans (h1 q b h0 hg)
theorem ag_of0 {g : Nat} {I I1 : sm_I} (h1 : ag 0 I I1) : ag g I I1 := fun q b h0 _ => h1 q b h0 h0
theorem ag_u {g : Nat} {I I1 : sm_I} {q k : Nat} {v : Int32} (h : ag g I I1) (hr : rg q k = 0 ∨ rg q k = g) : ag g I (sm_uI I1 q k v) := by
  intro a b h0 hg
  rw [uI_o, h a b h0 hg]
  rintro ⟨rfl, rfl⟩
  rcases hr with z | z
  · exact h0 z
  · exact hg z
theorem ag_c {g : Nat} {I I1 : sm_I} {s d sp dp n : Nat} (h : ag g I I1) (hr : ∀ b, rg d b = 0 ∨ rg d b = g) : ag g I (sm_cI I1 s d sp dp n) := by
  intro a b h0 hg
  unfold sm_cI
  rw [if_neg, h a b h0 hg]
  rintro rfl
  rcases hr b with z | z
  · exact h0 z
  · exact hg z
def agJ (J J' : sm_J) : Prop := ∀ q b : Nat, q ≠ 129 → J' q b = J q b
/-- the greatest number at a place of the reference's row -/
def top (k : Nat) : Nat := if k < 8 then 15 else if k < 16 then 9 else if k < 24 then 12 else if k < 32 then 999 else if k < 40 then 99 else if k < 52 then 999 else if k = 52 then 15 else 99
/-- where the same number lies otherwise -/
def clq (k : Nat) : Nat := if k < 8 then 35 else if k < 16 then 36 else if k < 24 then 37 else if k < 32 then 41 else if k < 40 then 42 else if k < 52 then 43 else if k = 52 then 34 else 40
def clb (k : Nat) : Nat := if k < 40 then k % 8 else if k < 52 then k - 40 else if k = 52 then 8 else 3
def kn (k : Nat) : Nat := if k < 40 then k % 8 else if k < 52 then k - 40 else 0
def kw (k : Nat) : Nat := if k < 40 then k / 8 else if k < 52 then 5 else if k = 52 then 6 else 7
def iv_ro (xs : Nat → Int32) (I : sm_I) : Prop := ∀ q b : Nat, q < 26 → I q b = sm_roI xs q b
def iv_fo (P D : Nat) (I : sm_I) : Prop :=
  (P ≤ 8 ∧ D ≤ 12 ∧ I 34 6 = nI P ∧ I 34 7 = nI D ∧ I 103 6 = nI P ∧ I 103 7 = nI D)
  ∧ (∀ k, k < 54 → I (clq k) (clb k) = I 104 k ∧ ∃ v : Nat, v ≤ top k ∧ I 104 k = nI v)
  ∧ (∀ p, P ≤ p → p < 8 → I 104 (32 + p) = 0)
  ∧ (∀ e, e < D → ∃ a b : Nat, a < P ∧ b < P ∧ a ≠ b ∧ I 38 e = nI a ∧ I 108 e = nI a ∧ I 39 e = nI b ∧ I 109 e = nI b)
def iv_ch (P : Nat) (I : sm_I) : Prop := ∃ c n : Nat, c ≤ n ∧ (n ≤ 40 ∧ I 117 0 = 0) ∧ I 54 4 = nI c ∧ I 54 5 = nI n ∧ I 103 5 = nI c ∧ I 103 4 = nI n
  ∧ ∀ j, j < n → ∃ k a b : Nat, k < 54 ∧ (32 ≤ k → k < 40 → k - 32 < P) ∧ a ≤ top k ∧ b ≤ top k ∧ I 105 j = nI k ∧ I 55 j = nI (kn k) ∧ I 56 j = nI (kw k) ∧ I 106 j = nI a ∧ I 57 j = nI a ∧ I 107 j = nI b ∧ I 58 j = nI b
def iv_ta (I : sm_I) : Prop := ∃ n : Nat, n ≤ 120 ∧ I 31 2 = nI n ∧ I 103 11 = nI n ∧ ∀ j, j < n → ∃ v : Nat, v ≤ 255 ∧ I 33 j = nI v ∧ I 110 j = nI v
def iv_im (P D : Nat) (I : sm_I) : Prop := (∀ k, k < 5 → I 59 k = I 121 k) ∧ ((I 48 4 = 0 ∧ I 103 33 = 0) ∨ (I 48 4 = 1 ∧ I 103 33 = 1
  ∧ ∃ p e : Nat, p ≤ P ∧ e ≤ D ∧ I 48 2 = nI p ∧ I 103 34 = nI p ∧ I 48 3 = nI e ∧ I 103 35 = nI e
  ∧ (∀ k, 24 ≤ k → k < 54 → k ≠ 52 → I (clq k + 9) (clb k) = I 122 k ∧ ∃ v : Nat, v ≤ top k ∧ I 122 k = nI v)
  ∧ ∀ k, k < 5 → I 53 k = I 123 k))
def iv_tu (B : Nat) (I : sm_I) : Prop := B ≤ 50 ∧ I 87 1 = nI B ∧ I 103 38 = nI B ∧ (∀ b, b < B → ∃ k : Nat, k < 8 ∧ I 89 b = nI k ∧ I 124 b = nI k)
  ∧ ∃ r : Nat, r < 24 ∧ I 87 2 = nI r ∧ I 103 41 = nI r ∧ ∀ j, j < r → I 88 j = I 125 j
/-- a shelf: nothing, a tune, a row -/
def shl (B : Nat) (I : sm_I) (J : sm_J) (s : Nat) : Prop :=
  (I 126 s = -1 ∧ I (91 + 2 * s) 1 = -1 ∧ I (91 + 2 * s) 2 = -1)
  ∨ (∃ b : Nat, b < B ∧ I 126 s = nI b ∧ I (91 + 2 * s) 1 = nI b ∧ I (91 + 2 * s) 2 = -1)
  ∨ (∃ t m : Nat, t < 5 ∧ m ≤ 60 ∧ I 126 s = nI (50 + t) ∧ I (91 + 2 * s) 1 = -1 ∧ I (91 + 2 * s) 2 = nI t ∧ I (91 + 2 * s) 3 = nI m ∧ I 127 s = nI m
    ∧ (t < 2 → ∀ j, j < 60 → ∃ v : Int32, J (92 + 2 * s) j = v.toInt64))
def iv_sh (B : Nat) (I : sm_I) (J : sm_J) : Prop := ∀ s, s < 6 → shl B I J s ∧ ∀ j, j < 60 → J (92 + 2 * s) j = J 128 (60 * s + j)
theorem iv_ro_ag {xs : Nat → Int32} {g : Nat} {I I' : sm_I} (h : iv_ro xs I) (ha : ag g I I') (hg : g ≠ 1) : iv_ro xs I' := by
  intro q b hq
  have hr : rg q b = 1 := by unfold rg; rw [if_pos hq]
  rw [ha q b (by rw [hr]; decide) (by rw [hr]; exact fun z => hg z.symm), h q b hq]
