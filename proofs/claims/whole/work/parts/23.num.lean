/-! numbers -/
theorem y_wid (a b : Int32) : (a.toInt64 ≤ b.toInt64) = (a ≤ b) := by
  rw [Int64.le_iff_toInt_le, Int32.le_iff_toInt_le, Int32.toInt_toInt64, Int32.toInt_toInt64]
theorem y_w0 (x : Int32) : ((0 : Int64) ≤ x.toInt64) = (0 ≤ x) := y_wid 0 x
theorem y_w1 (x : Int32) : ((1 : Int64) ≤ x.toInt64) = (1 ≤ x) := y_wid 1 x
theorem y_wm1 (x : Int32) : ((-1 : Int64) ≤ x.toInt64) = (-1 ≤ x) := y_wid (-1) x
theorem y_w6 (x : Int32) : ((6 : Int64) ≤ x.toInt64) = (6 ≤ x) := y_wid 6 x
theorem y_v1 (x : Int32) : (x.toInt64 ≤ 1) = (x ≤ 1) := y_wid x 1
theorem y_v2 (x : Int32) : (x.toInt64 ≤ 2) = (x ≤ 2) := y_wid x 2
theorem y_v3 (x : Int32) : (x.toInt64 ≤ 3) = (x ≤ 3) := y_wid x 3
theorem y_v4 (x : Int32) : (x.toInt64 ≤ 4) = (x ≤ 4) := y_wid x 4
theorem y_v5 (x : Int32) : (x.toInt64 ≤ 5) = (x ≤ 5) := y_wid x 5
theorem y_v6 (x : Int32) : (x.toInt64 ≤ 6) = (x ≤ 6) := y_wid x 6
theorem y_v7 (x : Int32) : (x.toInt64 ≤ 7) = (x ≤ 7) := y_wid x 7
theorem y_v12 (x : Int32) : (x.toInt64 ≤ 12) = (x ≤ 12) := y_wid x 12
theorem y_v15 (x : Int32) : (x.toInt64 ≤ 15) = (x ≤ 15) := y_wid x 15
theorem y_v30 (x : Int32) : (x.toInt64 ≤ 30) = (x ≤ 30) := y_wid x 30
theorem y_v40 (x : Int32) : (x.toInt64 ≤ 40) = (x ≤ 40) := y_wid x 40
theorem y_v255 (x : Int32) : (x.toInt64 ≤ 255) = (x ≤ 255) := y_wid x 255
theorem y_v999 (x : Int32) : (x.toInt64 ≤ 999) = (x ≤ 999) := y_wid x 999
/-- below a small number -/
theorem y_pred {x : Int32} {P : Nat} (hP : P < 2 ^ 31) : (x ≤ nI P - 1) = (x < nI P) := by
  rw [Int32.le_iff_toInt_le, Int32.lt_iff_toInt_lt, nI_toInt hP]
  have h : (nI P - 1).toInt = (P : Int) - 1 := by
    rw [Int32.toInt_sub, nI_toInt hP]
    have h1 : (1 : Int32).toInt = 1 := by decide
    rw [h1]
    apply Int.bmod_eq_of_le <;> omega
  rw [h]
  exact propext (by omega)
/-- 0 .. P - 1 -/
theorem y_idx {x : Int32} {P : Nat} (hP : P < 2 ^ 31) (h : 0 ≤ x ∧ x < nI P) : ∃ k : Nat, k < P ∧ x = nI k := by
  rcases pk_ix x hP with h1 | h1 | h1
  · exact absurd h.1 (Int32.not_le.mpr h1)
  · exact absurd h.2 (Int32.not_lt.mpr h1)
  · exact h1
theorem y_idx_of {k P : Nat} (hk : k < P) (hP : P < 2 ^ 31) : (0 : Int32) ≤ nI k ∧ nI k < nI P := ⟨nI_pos' (by omega), nI_lt hk hP⟩
