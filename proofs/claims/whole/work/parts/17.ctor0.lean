/-! the constructors: rules over cells that grow -/
section
variable {d mi pc : Nat} {L st : List Value} {a b : Nat} {z : Int} {K : Option Value → sm_H → Prop} {n : Nat} {X X' : sm_S} {I : sm_I} {J : sm_J}
theorem ct_at (n k : Nat) (X : sm_S) : (sm_roS n ++ X)[26 + k]? = X[k]? := by
  rw [List.getElem?_append_right (by show 26 ≤ 26 + k; omega)]
  show X[26 + k - 26]? = X[k]?
  rw [show 26 + k - 26 = k by omega]
theorem ct_set (n k : Nat) (X : sm_S) (e : Nat × Nat × List (Option Nat)) : (sm_roS n ++ X).set (26 + k) e = sm_roS n ++ X.set k e := by
  rw [List.set_append_right _ _ (by show 26 ≤ 26 + k; omega)]
  show sm_roS n ++ X.set (26 + k - 26) e = _
  rw [show 26 + k - 26 = k by omega]
theorem ct_len (n : Nat) (X : sm_S) : (sm_roS n ++ X).length = 26 + X.length := by
  rw [List.length_append]; rfl
theorem ct_getR {ix q k r : Nat} {rs : List (Option Nat)} (hcd : sm_cd mi pc = some (.getfield ix, 3, a, b, z)) (hq : 26 + k = q) (hX : X[k]? = some (0, a, rs)) (hb : b < sm_N a) (hf : sm_fk a b = 2) (hr : rs[b]? = some (some r)) (hk : sm_Ok d mi (pc + 3) L (.ref r :: st) (sm_roS n ++ X, I, J) K) : sm_Ok d mi pc L (.ref q :: st) (sm_roS n ++ X, I, J) K := by
  have h26 : 26 ≤ q := by omega
  have hX2 : (sm_roS n ++ X)[q]? = some (0, a, rs) := by rw [← hq, ct_at]; exact hX
  refine (sm_ok_step hcd rfl (fun z => by cases z.1) ?_).mpr hk
  simp only [sm_step, hX2]
  rw [if_pos ⟨trivial, trivial, h26, hb⟩, if_pos hf, hr]
  rfl
theorem ct_putR {ix q k r : Nat} {rs : List (Option Nat)} (hcd : sm_cd mi pc = some (.putfield ix, 3, a, b, z)) (hq : 26 + k = q) (hX : X[k]? = some (0, a, rs)) (hb : b < sm_N a) (hl : rs.length = sm_N a) (hf : sm_fk a b = 2) (hX' : X.set k (0, a, rs.set b (some r)) = X') (hk : sm_Ok d mi (pc + 3) L st (sm_roS n ++ X', I, J) K) : sm_Ok d mi pc L (.ref r :: .ref q :: st) (sm_roS n ++ X, I, J) K := by
  have h26 : 26 ≤ q := by omega
  have hX2 : (sm_roS n ++ X)[q]? = some (0, a, rs) := by rw [← hq, ct_at]; exact hX
  subst hX'
  refine (sm_ok_step hcd rfl (fun z => by cases z.1) ?_).mpr hk
  simp only [sm_step, hX2]
  rw [if_pos ⟨trivial, trivial, h26, hb, hl⟩, if_pos hf, ← hq, ct_set]
theorem ct_putI {ix q k : Nat} {x : Int32} {rs : List (Option Nat)} (hcd : sm_cd mi pc = some (.putfield ix, 3, a, b, z)) (hq : 26 + k = q) (hX : X[k]? = some (0, a, rs)) (hb : b < sm_N a) (hl : rs.length = sm_N a) (hf : sm_fk a b = 0) (hk : sm_Ok d mi (pc + 3) L st (sm_roS n ++ X, sm_uI I q b x, J) K) : sm_Ok d mi pc L (.int x :: .ref q :: st) (sm_roS n ++ X, I, J) K := by
  have h26 : 26 ≤ q := by omega
  have hX2 : (sm_roS n ++ X)[q]? = some (0, a, rs) := by rw [← hq, ct_at]; exact hX
  refine (sm_ok_step hcd rfl (fun z => by cases z.1) ?_).mpr hk
  simp only [sm_step, hX2]
  rw [if_pos ⟨trivial, trivial, h26, hb, hl⟩, if_pos (Or.inl hf)]
theorem ct_new {ix m : Nat} (hcd : sm_cd mi pc = some (.new ix, 3, a, b, z)) (hm : 26 + X.length = m) (hX' : X ++ [(0, a, List.replicate (sm_N a) none)] = X') (hk : sm_Ok d mi (pc + 3) L (.ref m :: st) (sm_roS n ++ X', sm_z32 I m, J) K) : sm_Ok d mi pc L st (sm_roS n ++ X, I, J) K := by
  subst hm
  subst hX'
  refine (sm_ok_step hcd rfl (fun z => by cases z.1) ?_).mpr hk
  simp only [sm_step, ct_len, List.append_assoc]
theorem ct_newI {t : ArrayType} {m c : Nat} {x : Int32} (hcd : sm_cd mi pc = some (.newarray t, 2, 1, b, z)) (hx : ¬ x < 0) (hc : x.toNatClampNeg = c) (hc2 : c ≤ 1000) (hm : 26 + X.length = m) (hX' : X ++ [(1, c, [])] = X') (hk : sm_Ok d mi (pc + 2) L (.ref m :: st) (sm_roS n ++ X', sm_z32 I m, J) K) : sm_Ok d mi pc L (.int x :: st) (sm_roS n ++ X, I, J) K := by
  subst hm
  subst hX'
  subst hc
  refine (sm_ok_step hcd rfl (fun z => by cases z.1) ?_).mpr hk
  simp only [sm_step, ct_len, List.append_assoc]
  rw [if_pos ⟨hx, hc2⟩, if_pos trivial]
theorem ct_newJ {t : ArrayType} {m c : Nat} {x : Int32} (hcd : sm_cd mi pc = some (.newarray t, 2, 2, b, z)) (hx : ¬ x < 0) (hc : x.toNatClampNeg = c) (hc2 : c ≤ 1000) (hm : 26 + X.length = m) (hX' : X ++ [(2, c, [])] = X') (hk : sm_Ok d mi (pc + 2) L (.ref m :: st) (sm_roS n ++ X', I, sm_z64 J m) K) : sm_Ok d mi pc L (.int x :: st) (sm_roS n ++ X, I, J) K := by
  subst hm
  subst hX'
  subst hc
  refine (sm_ok_step hcd rfl (fun z => by cases z.1) ?_).mpr hk
  simp only [sm_step, ct_len, List.append_assoc]
  rw [if_pos ⟨hx, hc2⟩, if_neg (by decide)]
theorem ct_anew {ix m c : Nat} {x : Int32} (hcd : sm_cd mi pc = some (.anewarray ix, 3, a, b, z)) (hx : ¬ x < 0) (hc : x.toNatClampNeg = c) (hc2 : c ≤ 1000) (hm : 26 + X.length = m) (hX' : X ++ [(3, a, List.replicate c none)] = X') (hk : sm_Ok d mi (pc + 3) L (.ref m :: st) (sm_roS n ++ X', I, J) K) : sm_Ok d mi pc L (.int x :: st) (sm_roS n ++ X, I, J) K := by
  subst hm
  subst hX'
  subst hc
  refine (sm_ok_step hcd rfl (fun z => by cases z.1) ?_).mpr hk
  simp only [sm_step, ct_len, List.append_assoc]
  rw [if_pos ⟨hx, hc2⟩]
theorem ct_aast {q r k k2 c i : Nat} {x : Int32} {rs rs2 : List (Option Nat)} (hcd : sm_cd mi pc = some (.aastore, 1, a, b, z)) (hq : 26 + k = q) (hr : 26 + k2 = r) (hX : X[k]? = some (3, c, rs)) (hX2 : X[k2]? = some (0, c, rs2)) (hx : sm_in x rs.length = true) (hi : x.toNatClampNeg = i) (hX' : X.set k (3, c, rs.set i (some r)) = X') (hk : sm_Ok d mi (pc + 1) L st (sm_roS n ++ X', I, J) K) : sm_Ok d mi pc L (.ref r :: .int x :: .ref q :: st) (sm_roS n ++ X, I, J) K := by
  have h26 : 26 ≤ q := by omega
  have g26 : 26 ≤ r := by omega
  have hX3 : (sm_roS n ++ X)[q]? = some (3, c, rs) := by rw [← hq, ct_at]; exact hX
  have hX4 : (sm_roS n ++ X)[r]? = some (0, c, rs2) := by rw [← hr, ct_at]; exact hX2
  subst hX'
  subst hi
  refine (sm_ok_step hcd rfl (fun z => by cases z.1) ?_).mpr hk
  simp only [sm_step, hX3, hX4]
  rw [if_pos ⟨trivial, hx, h26, trivial, trivial, g26⟩, ← hq, ct_set]
theorem ct_iast {q k c i : Nat} {x v : Int32} {rs : List (Option Nat)} (hcd : sm_cd mi pc = some (.iastore, 1, a, b, z)) (hq : 26 + k = q) (hX : X[k]? = some (1, c, rs)) (hx : sm_in x c = true) (hi : x.toNatClampNeg = i) (hk : sm_Ok d mi (pc + 1) L st (sm_roS n ++ X, sm_uI I q i v, J) K) : sm_Ok d mi pc L (.int v :: .int x :: .ref q :: st) (sm_roS n ++ X, I, J) K := by
  have h26 : 26 ≤ q := by omega
  have hX2 : (sm_roS n ++ X)[q]? = some (1, c, rs) := by rw [← hq, ct_at]; exact hX
  subst hi
  refine (sm_ok_step hcd rfl (fun z => by cases z.1) ?_).mpr hk
  simp only [sm_step, hX2]
  rw [if_pos ⟨trivial, hx, h26⟩]
theorem ct_oi {ix q : Nat} {h : sm_H} (hcd : sm_cd mi pc = some (.invokespecial ix, 3, 9999, b, z)) (hs : (st.map fun v => v.category).sum ≤ 8) (hk : sm_Ok d mi (pc + 3) L st h K) : sm_Ok d mi pc L (.ref q :: st) h K := by
  refine (sm_ok_step hcd rfl (fun z => absurd z.2 (by decide)) ?_).mpr hk
  simp only [sm_step]
  rw [if_pos trivial, if_pos hs]
theorem ct_callI {ix a b q : Nat} {st : List Value} {h : sm_H} (ha : ¬ 9000 ≤ a) (hb : b + 1 ≤ st.length ∧ ((st.drop (b + 1)).map fun v => v.category).sum ≤ 8) (h1 : st[b]? = some (.ref q)) : sm_call (.invokespecial ix) a b st h = some (a, (st.take (b + 1)).reverse, st.drop (b + 1)) := by
  simp only [sm_call]
  rw [if_neg ha, if_pos hb, h1]
end
