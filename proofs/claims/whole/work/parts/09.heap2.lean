/-! new cells, row copies, statics, texts, min and max -/
section
variable {p : Program} {l : Launch} {e : Env} {R : Room} {s : State} {m : MethodId} {args : Array Value} {below : List Frame} {meth : Method} {c : Code} {Q : State → Prop} {G : sm_G} {n0 nL mi d pc : Nat} {L st : List Value} {h : sm_H}
theorem sm_room {R : Room} {n0 n : Nat} (hn : n0 ≤ n) (hR : n + 1 - n0 ≤ R.cells) (hS : 1000 * (n + 1 - n0) ≤ R.slots) {w : Nat} (hw : w ≤ 1000) : (n - n0) + 1 ≤ R.cells ∧ 1000 * (n - n0) + w ≤ R.slots ∧ 1000 * (n - n0) + w ≤ 1000 * (n + 1 - n0) ∧ (n - n0) + 1 = n + 1 - n0 := by omega
theorem sm_N_le {a : Nat} (h : a < 13) : sm_N a ≤ 1000 := by
  have : ∀ a : Fin 13, sm_N a ≤ 1000 := by decide
  exact this ⟨a, h⟩
theorem sm_g_new (X : sm_Cx p R s m args meth c mi d) (hK : sm_K G s) {ix a : Nat} (hd : decode (sm_by mi) pc = .ok (.new ix, 3)) (hk : sm_CT.contains (sm_cls mi, ix, a) = true) (hn : n0 ≤ h.1.length) (hR : h.1.length + 1 - n0 ≤ R.cells) (hS : 1000 * (h.1.length + 1 - n0) ≤ R.slots)
    (k : sm_Go p l e R s m args below meth c Q G n0 nL (pc + 3) L (.ref h.1.length :: st) (h.1 ++ [(0, a, List.replicate (sm_N a) none)], sm_z32 h.2.1 h.1.length, h.2.2)) : sm_Go p l e R s m args below meth c Q G n0 nL pc L st h := by
  intro ls H locs h1 h2 h3
  obtain ⟨hw, ha⟩ := sm_c_CT _ (List.contains_iff_mem.mp hk)
  have ha : a < 13 := ha
  obtain ⟨-, hinst, hini⟩ := sm_c_cls a ha
  have hKn := hK.1 a ha
  obtain ⟨r1, r2, r3, r4⟩ := sm_room hn hR hS (sm_N_le ha)
  refine W.newcK X.1 X.2.1 X.2.2.2.2.1 (X.use hw) (X.use hinst) (X.use hini) rfl hd r1 r2 hKn.2.1 rfl fun H1 kC hkC e1 z1 o1 => ?_
  rw [h2.sz] at e1
  have hl : (h.1 ++ [(0, a, List.replicate (sm_N a) (none : Option Nat))]).length = h.1.length + 1 := by simp
  have hk2 := k ls H1 locs h1 (h2.push (e' := (0, a, List.replicate (sm_N a) none)) rfl (fun r hr j => ?_) (fun _ _ _ => rfl) (Nat.zero_le _) z1 o1 ⟨fun _ => ⟨ha, List.length_replicate, ?_⟩, fun z => (by cases z), fun z => (by cases z), fun z => (by cases z)⟩) h3
  · refine W.widen (k := h.1.length + 1 - n0) (n := 1000 * (h.1.length + 1 - n0)) (by omega) (by omega) ?_
    have hk3 : W p l e R s m args below meth c H1 locs ((h.1 ++ [(0, a, List.replicate (sm_N a) (none : Option Nat))]).length - n0) (1000 * ((h.1 ++ [(0, a, List.replicate (sm_N a) (none : Option Nat))]).length - n0)) Q (F0 m (pc + 3) ls ((.ref h.1.length :: st).map (sm_tr G))) := hk2
    rw [hl] at hk3
    have es : Value.ref H.size :: st.map (sm_tr G) = (Value.ref h.1.length :: st).map (sm_tr G) := by
      rw [List.map_cons, h2.sz]; rfl
    show W p l e R s m args below meth c H1 locs _ _ Q (F0 m (pc + 3) ls (Value.ref H.size :: st.map (sm_tr G)))
    rw [es]
    exact hk3
  · show sm_z32 h.2.1 h.1.length r j = h.2.1 r j
    unfold sm_z32; rw [if_neg hr]
  · refine (u_born (sm_ty a) X.2.2.2.2.2.1 (sm_cls_in X ha) hKn hkC e1 (sm_c_ty1 ⟨a, ha⟩)).to fun j hj => ?_
    obtain ⟨t0, t1, t2, t3⟩ := sm_c_ty2 ⟨a, ha⟩ j hj
    have t0 : sm_fk a j = 0 → sm_ty a j = .int := t0
    have t1 : sm_fk a j = 1 → sm_ty a j = .boolean := t1
    show defaultValue (sm_ty a j) = sm_fv G (h.1 ++ [(0, a, List.replicate (sm_N a) none)], sm_z32 h.2.1 h.1.length, h.2.2) h.1.length a (List.replicate (sm_N a) none) j
    unfold sm_fv
    rcases t3 with t | t | t
    · have t : sm_fk a j = 0 := t
      rw [t0 t, if_neg (by rw [t]; decide)]
      simp [defaultValue, sm_z32]
    · have t : sm_fk a j = 1 := t
      rw [t1 t, if_neg (by rw [t]; decide)]
      simp [defaultValue, sm_z32]
    · have t : sm_fk a j = 2 := t
      have t4 : (match sm_ty a j with | .object _ => true | .array _ => true | _ => false) = true := t2 t
      rw [if_pos t]
      have e5 : (List.replicate (sm_N a) (none : Option Nat)).getD j none = none := by
        rw [List.getD_eq_getElem?_getD, List.getElem?_replicate]
        split <;> rfl
      rw [e5]
      cases hty : sm_ty a j with
      | object n => rfl
      | array t => rfl
      | _ => rw [hty] at t4; cases t4
theorem sm_g_newa (X : sm_Cx p R s m args meth c mi d) (hK : sm_K G s) {t : ArrayType} {a : Nat} {n : Int32} (hd : decode (sm_by mi) pc = .ok (.newarray t, 2)) (hk : ((a == 1 && t == .int) || (a == 2 && t == .long)) = true) (hn0 : n0 ≤ h.1.length) (hR : h.1.length + 1 - n0 ≤ R.cells) (hS : 1000 * (h.1.length + 1 - n0) ≤ R.slots) (hn : ¬ n < 0) (hb : n.toNatClampNeg ≤ 1000)
    (k1 : a = 1 → sm_Go p l e R s m args below meth c Q G n0 nL (pc + 2) L (.ref h.1.length :: st) (h.1 ++ [(1, n.toNatClampNeg, [])], sm_z32 h.2.1 h.1.length, h.2.2))
    (k2 : a ≠ 1 → sm_Go p l e R s m args below meth c Q G n0 nL (pc + 2) L (.ref h.1.length :: st) (h.1 ++ [(2, n.toNatClampNeg, [])], h.2.1, sm_z64 h.2.2 h.1.length)) : sm_Go p l e R s m args below meth c Q G n0 nL pc L (.int n :: st) h := by
  intro ls H locs h1 h2 h3
  obtain ⟨r1, r2, r3, r4⟩ := sm_room hn0 hR hS hb
  have es : Value.ref H.size :: st.map (sm_tr G) = (Value.ref h.1.length :: st).map (sm_tr G) := by
    rw [List.map_cons, h2.sz]; rfl
  have hl : ∀ x : Nat × Nat × List (Option Nat), (h.1 ++ [x]).length = h.1.length + 1 := fun x => by simp
  have hcase : (a = 1 ∧ t = .int) ∨ (a = 2 ∧ t = .long) := by
    simp only [Bool.or_eq_true, Bool.and_eq_true, beq_iff_eq] at hk
    cases t <;> first | exact Or.inl ⟨(hk.resolve_right (fun z => by cases z.2)).1, rfl⟩ | exact Or.inr ⟨(hk.resolve_left (fun z => by cases z.2)).1, rfl⟩ | (rcases hk with z | z <;> cases z.2)
  rcases hcase with ⟨ha, rfl⟩ | ⟨ha, rfl⟩
  · refine va_newaK (atype := .int) X.1 X.2.1 (X.use sm_c_arr.1) rfl hd rfl hn rfl (by show _ * 4 ≤ _; omega) r1 r2 rfl fun H1 cA e1 z1 o1 _ hNm => ?_
    have hcA : cA = sm_cA G 1 := Option.some.inj (hNm.symm.trans hK.2.1.2)
    subst hcA
    rw [h2.sz] at e1
    have hk2 := k1 ha ls H1 locs h1 (h2.push (e' := (1, n.toNatClampNeg, [])) rfl (fun r hr j => ?_) (fun _ _ _ => rfl) (show (1 : Nat) ≤ 3 by decide) z1 o1 ⟨fun z => (by cases z), fun _ => ?_, fun z => (by cases z), fun z => (by cases z)⟩) h3
    · refine W.widen (k := h.1.length + 1 - n0) (n := 1000 * (h.1.length + 1 - n0)) (by omega) (by omega) ?_
      have hk3 : W p l e R s m args below meth c H1 locs ((h.1 ++ [(1, n.toNatClampNeg, ([] : List (Option Nat)))]).length - n0) (1000 * ((h.1 ++ [(1, n.toNatClampNeg, ([] : List (Option Nat)))]).length - n0)) Q (F0 m (pc + 2) ls ((.ref h.1.length :: st).map (sm_tr G))) := hk2
      rw [hl, ← es] at hk3
      exact hk3
    · show sm_z32 h.2.1 h.1.length r j = h.2.1 r j
      unfold sm_z32; rw [if_neg hr]
    · rw [e1]
      congr 2
      funext j
      show defaultValue .int = Value.int (sm_z32 h.2.1 h.1.length h.1.length j)
      simp [defaultValue, sm_z32]
  · refine va_newaK (atype := .long) X.1 X.2.1 (X.use sm_c_arr.2.1) rfl hd rfl hn rfl (by show _ * 8 ≤ _; omega) r1 r2 rfl fun H1 cA e1 z1 o1 _ hNm => ?_
    have hcA : cA = sm_cA G 2 := Option.some.inj (hNm.symm.trans hK.2.2.1.2)
    subst hcA
    rw [h2.sz] at e1
    have hk2 := k2 (by omega) ls H1 locs h1 (h2.push (e' := (2, n.toNatClampNeg, [])) rfl (fun _ _ _ => rfl) (fun r hr j => ?_) (show (2 : Nat) ≤ 3 by decide) z1 o1 ⟨fun z => (by cases z), fun z => (by cases z), fun _ => ?_, fun z => (by cases z)⟩) h3
    · refine W.widen (k := h.1.length + 1 - n0) (n := 1000 * (h.1.length + 1 - n0)) (by omega) (by omega) ?_
      have hk3 : W p l e R s m args below meth c H1 locs ((h.1 ++ [(2, n.toNatClampNeg, ([] : List (Option Nat)))]).length - n0) (1000 * ((h.1 ++ [(2, n.toNatClampNeg, ([] : List (Option Nat)))]).length - n0)) Q (F0 m (pc + 2) ls ((.ref h.1.length :: st).map (sm_tr G))) := hk2
      rw [hl, ← es] at hk3
      exact hk3
    · show sm_z64 h.2.2 h.1.length r j = h.2.2 r j
      unfold sm_z64; rw [if_neg hr]
    · rw [e1]
      congr 2
      funext j
      show defaultValue .long = Value.long (sm_z64 h.2.2 h.1.length h.1.length j)
      simp [defaultValue, sm_z64]
theorem sm_g_anew (X : sm_Cx p R s m args meth c mi d) (hK : sm_K G s) {ix a : Nat} {n : Int32} (hd : decode (sm_by mi) pc = .ok (.anewarray ix, 3)) (hk : sm_AN.contains (sm_cls mi, ix, a) = true) (hn0 : n0 ≤ h.1.length) (hR : h.1.length + 1 - n0 ≤ R.cells) (hS : 1000 * (h.1.length + 1 - n0) ≤ R.slots) (hn : ¬ n < 0) (hb : n.toNatClampNeg ≤ 1000)
    (k : sm_Go p l e R s m args below meth c Q G n0 nL (pc + 3) L (.ref h.1.length :: st) (h.1 ++ [(3, a, List.replicate n.toNatClampNeg none)], h.2.1, h.2.2)) : sm_Go p l e R s m args below meth c Q G n0 nL pc L (.int n :: st) h := by
  intro ls H locs h1 h2 h3
  obtain ⟨hw, ha⟩ := sm_c_AN _ (List.contains_iff_mem.mp hk)
  have ha : a = 6 ∨ a = 8 := ha
  obtain ⟨r1, r2, r3, r4⟩ := sm_room hn0 hR hS hb
  obtain ⟨⟨hA1, hA2⟩, hAO⟩ := hK.2.2.2.1 a ha
  refine W.anew X.1 X.2.1 X.2.2.2.2.1 (X.use hw) (va_AO.use hAO) rfl hd rfl hn (by omega) r1 r2 fun cA kA comp f1 f2 f3 f4 => ?_
  obtain ⟨kA', comp', g1, g2, g3, g4⟩ := hA2
  have hcA : cA = sm_cA G (10 + a) := Option.some.inj (f1.symm.trans g4)
  generalize hH1 : H.push ({ cls := cA, slots := Array.replicate n.toNatClampNeg .null, vm := .none } : Cell) = H1
  have z1 : H1.size = H.size + 1 := by rw [← hH1, Array.size_push]
  have e1 : H1[H.size]? = some (arrV cA n.toNatClampNeg (fun _ => .null)) := by rw [← hH1, Array.getElem?_push_size, ← arrV_new]
  have o1 : ∀ q : Nat, q < H.size → H1[q]? = H[q]? := fun q hq => by rw [← hH1, Array.getElem?_push, if_neg (Nat.ne_of_lt hq)]
  have es : Value.ref H.size :: st.map (sm_tr G) = (Value.ref h.1.length :: st).map (sm_tr G) := by
    rw [List.map_cons, h2.sz]; rfl
  have hl : ∀ x : Nat × Nat × List (Option Nat), (h.1 ++ [x]).length = h.1.length + 1 := fun x => by simp
  rw [h2.sz] at e1
  have hk2 := k ls H1 locs h1 (h2.push (e' := (3, a, List.replicate n.toNatClampNeg none)) rfl (fun _ _ _ => rfl) (fun _ _ _ => rfl) (show (3 : Nat) ≤ 3 by decide) z1 o1 ⟨fun z => (by cases z), fun z => (by cases z), fun z => (by cases z), fun _ => ⟨ha, ?_⟩⟩) h3
  · refine W.widen (k := h.1.length + 1 - n0) (n := 1000 * (h.1.length + 1 - n0)) (by omega) (by omega) ?_
    have hk3 : W p l e R s m args below meth c H1 locs ((h.1 ++ [(3, a, List.replicate n.toNatClampNeg (none : Option Nat))]).length - n0) (1000 * ((h.1 ++ [(3, a, List.replicate n.toNatClampNeg (none : Option Nat))]).length - n0)) Q (F0 m (pc + 3) ls ((.ref h.1.length :: st).map (sm_tr G))) := hk2
    rw [hl, ← es] at hk3
    exact hk3
  · rw [e1, hcA]
    show some (arrV _ _ _) = some (arrV _ (List.replicate n.toNatClampNeg (none : Option Nat)).length _)
    rw [List.length_replicate]
    congr 2
    funext j
    have e5 : (List.replicate n.toNatClampNeg (none : Option Nat)).getD j none = none := by
      rw [List.getD_eq_getElem?_getD, List.getElem?_replicate]
      split <;> rfl
    show Value.null = sm_tr G (sm_rv ((List.replicate n.toNatClampNeg (none : Option Nat)).getD j none))
    rw [e5]; rfl
theorem sm_g_oinit (X : sm_Cx p R s m args meth c mi d) {ix q : Nat} (hd : decode (sm_by mi) pc = .ok (.invokespecial ix, 3)) (hk : sm_OI.contains (sm_cls mi, ix) = true) (hc : (st.map fun v => v.category).sum ≤ 8)
    (k : sm_Go p l e R s m args below meth c Q G n0 nL (pc + 3) L st h) (hnL : nL = sm_mxl mi) : sm_Go p l e R s m args below meth c Q G n0 nL pc L (.ref q :: st) h := by
  intro ls H locs h1 h2 h3
  have hw := sm_c_OI _ (List.contains_iff_mem.mp hk)
  have hfr := X.2.2.2.2.2.2.2.1
  have hlo := X.2.2.2.2.2.2.2.2.1
  refine W.objInit X.1 X.2.1 X.2.2.2.2.1 (X.use hw) (X.use sm_c_OI2.1) (X.use sm_c_OI2.2) rfl (by show ls.size = _; rw [h1.1, hnL, X.2.2.2.1]) (rest := st.map (sm_tr G)) rfl hd (by omega) ?_ (k ls H locs h1 h2 h3)
  rw [sm_tr_sum]
  show 2 * 0 + _ + 12 ≤ _
  omega
theorem sm_g_max (X : sm_Cx p R s m args meth c mi d) {ix : Nat} {x y : Int32} (hd : decode (sm_by mi) pc = .ok (.invokestatic ix, 3)) (hk : sm_MX.contains (sm_cls mi, ix) = true) (hc : (st.map fun v => v.category).sum ≤ 8) (hR : h.1.length - n0 ≤ R.cells) (hS : 1000 * (h.1.length - n0) ≤ R.slots)
    (k : sm_Go p l e R s m args below meth c Q G n0 nL (pc + 3) L (.int (if x < y then y else x) :: st) h) (hnL : nL = sm_mxl mi) : sm_Go p l e R s m args below meth c Q G n0 nL pc L (.int y :: .int x :: st) h := by
  intro ls H locs h1 h2 h3
  have hw := sm_c_MX _ (List.contains_iff_mem.mp hk)
  have hfr := X.2.2.2.2.2.2.2.1
  have hlo := X.2.2.2.2.2.2.2.2.1
  refine va_mmax X.1 X.2.1 (by rw [h1.1, hnL, X.2.2.2.1]) X.2.2.2.2.1 (X.use hw) (X.use sm_c_mmax.1) (X.use sm_c_mmax.2.1) (X.use sm_c_mmax.2.2) (rest := st.map (sm_tr G)) (by omega) (by rw [sm_tr_sum]; omega) hR hS hd (k ls H locs h1 h2 h3)
theorem sm_g_min (X : sm_Cx p R s m args meth c mi d) {ix : Nat} {x y : Int32} (hd : decode (sm_by mi) pc = .ok (.invokestatic ix, 3)) (hk : sm_MN.contains (sm_cls mi, ix) = true) (hc : (st.map fun v => v.category).sum ≤ 8) (hR : h.1.length - n0 ≤ R.cells) (hS : 1000 * (h.1.length - n0) ≤ R.slots)
    (k : sm_Go p l e R s m args below meth c Q G n0 nL (pc + 3) L (.int (if y < x then y else x) :: st) h) (hnL : nL = sm_mxl mi) : sm_Go p l e R s m args below meth c Q G n0 nL pc L (.int y :: .int x :: st) h := by
  intro ls H locs h1 h2 h3
  have hw := sm_c_MN _ (List.contains_iff_mem.mp hk)
  have hfr := X.2.2.2.2.2.2.2.1
  have hlo := X.2.2.2.2.2.2.2.2.1
  refine va_mmin X.1 X.2.1 (by rw [h1.1, hnL, X.2.2.2.1]) X.2.2.2.2.1 (X.use hw) (X.use sm_c_mmin.1) (X.use sm_c_mmin.2.1) (X.use sm_c_mmin.2.2) (rest := st.map (sm_tr G)) (by omega) (by rw [sm_tr_sum]; omega) hR hS hd (k ls H locs h1 h2 h3)
theorem sm_g_ldcS (X : sm_Cx p R s m args meth c mi d) (hK : sm_K G s) {ix b : Nat} (hd : decode (sm_by mi) pc = .ok (.ldc ix, 2)) (hk : sm_LS.contains (sm_cls mi, ix, b) = true)
    (k : sm_Go p l e R s m args below meth c Q G n0 nL (pc + 2) L (.ref (4 + b) :: st) h) : sm_Go p l e R s m args below meth c Q G n0 nL pc L st h := by
  intro ls H locs h1 h2 h3
  obtain ⟨e1, e2, e3⟩ := sm_c_LS _ (List.contains_iff_mem.mp hk)
  have hR := hK.2.2.2.2.2.2.2.2 b e3
  have e1 : (sm_st.getD b ("", 0, "")).1 = sm_c (sm_cls mi) := e1
  have e2 : (sm_st.getD b ("", 0, "")).2.1 = ix := e2
  have e3 : b < 11 := e3
  rw [e1, e2] at hR
  have ea : sm_ad G (4 + b) = sm_ro G (4 + b) := by unfold sm_ad; rw [if_pos (by omega)]
  have hk2 := k ls H locs h1 h2 h3
  rw [List.map_cons, show sm_tr G (.ref (4 + b)) = .ref (sm_ro G (4 + b)) by show Value.ref (sm_ad G (4 + b)) = _; rw [ea]] at hk2
  exact va_ldcS X.1 X.2.1 X.2.2.2.2.1 hR hd hk2
theorem sm_g_ldcI (X : sm_Cx p R s m args meth c mi d) {ix : Nat} {z : Int} (hd : decode (sm_by mi) pc = .ok (.ldc ix, 2)) (hk : sm_LC.contains (sm_cls mi, ix, z) = true)
    (k : sm_Go p l e R s m args below meth c Q G n0 nL (pc + 2) L (.int (Int32.ofInt z) :: st) h) : sm_Go p l e R s m args below meth c Q G n0 nL pc L st h :=
  fun ls H locs h1 h2 h3 => lv_ldc X.1 X.2.1 X.2.2.2.2.1 (X.use (sm_c_LC _ (List.contains_iff_mem.mp hk))) hd (k ls H locs h1 h2 h3)
theorem sm_g_ldcw (X : sm_Cx p R s m args meth c mi d) {ix : Nat} {z : Int} (hd : decode (sm_by mi) pc = .ok (.ldc_w ix, 3)) (hk : sm_LC.contains (sm_cls mi, ix, z) = true)
    (k : sm_Go p l e R s m args below meth c Q G n0 nL (pc + 3) L (.int (Int32.ofInt z) :: st) h) : sm_Go p l e R s m args below meth c Q G n0 nL pc L st h :=
  fun ls H locs h1 h2 h3 => lv_ldcw X.1 X.2.1 X.2.2.2.2.1 (X.use (sm_c_LC _ (List.contains_iff_mem.mp hk))) hd (k ls H locs h1 h2 h3)
theorem sm_g_ldc2 (X : sm_Cx p R s m args meth c mi d) {ix : Nat} {z : Int} (hd : decode (sm_by mi) pc = .ok (.ldc2_w ix, 3)) (hk : sm_LL.contains (sm_cls mi, ix, z) = true)
    (k : sm_Go p l e R s m args below meth c Q G n0 nL (pc + 3) L (.long (Int64.ofInt z) :: st) h) : sm_Go p l e R s m args below meth c Q G n0 nL pc L st h :=
  fun ls H locs h1 h2 h3 => lv_ldc2 X.1 X.2.1 X.2.2.2.2.1 (X.use (sm_c_LL _ (List.contains_iff_mem.mp hk))) hd (k ls H locs h1 h2 h3)
theorem sm_gets {H : Heap} {locs : List Loc} {cells slots : Nat} {ls : Array Slot} {rest : List Value} (X : sm_Cx p R s m args meth c mi d) (h2 : sm_Wd G h H) {ix : Nat} {C n dd : String} {v : Value} (hZ : va_Z C n dd v (sm_A G) s (sm_H0 G)) (hl : sm_w (.fieldLink (sm_c (sm_cls mi)) ix C n dd)) (hd : decode (sm_by mi) pc = .ok (.getstatic ix, 3))
    (kk : W p l e R s m args below meth c H locs cells slots Q (F0 m (pc + 3) ls (v :: rest))) : W p l e R s m args below meth c H locs cells slots Q (F0 m pc ls rest) := by
  obtain ⟨cf, kf, fi, f, a, cell, z1, z2, z3, z4, z5, z6, z7, z8⟩ := hZ
  exact W.gets X.1 X.2.1 X.2.2.2.2.1 (X.use hl) z1 z2 z3 z4 (by rw [h2.old z8]; exact z5) (fun e => by rw [e] at z6; cases z6) z7 rfl hd kk
theorem sm_g_gets (X : sm_Cx p R s m args meth c mi d) (hK : sm_K G s) {ix a : Nat} (hd : decode (sm_by mi) pc = .ok (.getstatic ix, 3)) (hk : sm_GS.contains (sm_cls mi, ix, a) = true)
    (k0 : a = 0 → sm_Go p l e R s m args below meth c Q G n0 nL (pc + 3) L (.int 1 :: st) h) (k1 : a ≠ 0 → sm_Go p l e R s m args below meth c Q G n0 nL (pc + 3) L (.ref a :: st) h) : sm_Go p l e R s m args below meth c Q G n0 nL pc L st h := by
  intro ls H locs h1 h2 h3
  obtain ⟨hw, ha⟩ := sm_c_GS _ (List.contains_iff_mem.mp hk)
  have ha : a < 4 := ha
  obtain ⟨g1, g2, g3, g0⟩ := hK.2.2.2.2.2.2.1
  rcases (show a = 0 ∨ a = 1 ∨ a = 2 ∨ a = 3 by omega) with rfl | rfl | rfl | rfl
  · exact sm_gets X h2 g0 hw hd (k0 rfl ls H locs h1 h2 h3)
  · exact sm_gets X h2 g1 hw hd (k1 (by decide) ls H locs h1 h2 h3)
  · exact sm_gets X h2 g2 hw hd (k1 (by decide) ls H locs h1 h2 h3)
  · exact sm_gets X h2 g3 hw hd (k1 (by decide) ls H locs h1 h2 h3)
theorem sm_g_getS (X : sm_Cx p R s m args meth c mi d) (hK : sm_K G s) {ix b q : Nat} (hd : decode (sm_by mi) pc = .ok (.getfield ix, 3)) (hk : sm_FS.contains (sm_cls mi, ix, 13, b) = true) (hq : 4 ≤ q) (hq2 : q < 15)
    (k0 : b = 0 → sm_Go p l e R s m args below meth c Q G n0 nL (pc + 3) L (.ref (q + 11) :: st) h) (k1 : b ≠ 0 → sm_Go p l e R s m args below meth c Q G n0 nL (pc + 3) L (.int 0 :: st) h) : sm_Go p l e R s m args below meth c Q G n0 nL pc L (.ref q :: st) h := by
  intro ls H locs h1 h2 h3
  obtain ⟨hw, -⟩ := sm_c_FS _ (List.contains_iff_mem.mp hk)
  obtain ⟨i, rfl⟩ : ∃ i, q = 4 + i := ⟨q - 4, by omega⟩
  obtain ⟨-, t1, t2, -⟩ := hK.2.2.2.2.2.2.2.1.1 i (by omega)
  have ea : sm_ad G (4 + i) = sm_ro G (4 + i) := by unfold sm_ad; rw [if_pos (by omega)]
  show W p l e R s m args below meth c H locs _ _ Q (F0 m pc ls (.ref (sm_ad G (4 + i)) :: st.map (sm_tr G)))
  rw [ea]
  by_cases hb : b = 0
  · subst hb
    obtain ⟨cf, kf, fi, f, cell, y1, y2, y3, y4, y5, y6⟩ := t2
    have hk2 := k0 rfl ls H locs h1 h2 h3
    rw [List.map_cons, show sm_tr G (.ref (4 + i + 11)) = .ref (sm_ro G (15 + i)) by show Value.ref (sm_ad G _) = _; rw [show 4 + i + 11 = 15 + i by omega]; unfold sm_ad; rw [if_pos (by omega)]] at hk2
    exact W.getf X.1 X.2.1 X.2.2.2.2.1 (X.use hw) y1 y2 (by rw [h2.old y6]; exact y3) y4 y5 rfl rfl hd hk2
  · obtain ⟨cf, kf, fi, f, cell, y1, y2, y3, y4, y5, y6⟩ := t1
    have hw2 : sm_w (.fieldLink (sm_c (sm_cls mi)) ix "java/lang/String" (if b = 0 then "value" else "coder") (if b = 0 then "[B" else "B")) := hw
    rw [if_neg hb, if_neg hb] at hw2
    exact W.getf X.1 X.2.1 X.2.2.2.2.1 (X.use hw2) y1 y2 (by rw [h2.old y6]; exact y3) y4 y5 rfl rfl hd (k1 hb ls H locs h1 h2 h3)
end
