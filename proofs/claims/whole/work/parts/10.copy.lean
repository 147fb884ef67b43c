/-! System.arraycopy between rows of ours -/
section
variable {p : Program} {l : Launch} {e : Env} {R : Room} {s : State} {m : MethodId} {args : Array Value} {below : List Frame} {meth : Method} {c : Code} {Q : State → Prop} {G : sm_G} {n0 nL mi d pc : Nat} {L st : List Value} {h : sm_H}
theorem sm_nn (z : Int32) (hz : ¬ z < 0) : z.toInt = (z.toNatClampNeg : Int) := by
  have hz0 : (0 : Int) ≤ z.toInt := by
    have := Int32.not_lt.mp hz
    simpa using Int32.le_iff_toInt_le.mp this
  show z.toInt = ((z.toInt.toNat : Nat) : Int)
  omega
theorem sm_copyW {α : Type} (mk : α → Value) {H : Heap} {locs : List Loc} {cells slots : Nat} {ls : Array Slot} {rest : List Value} (X : sm_Cx p R s m args meth c mi d) {ix : Nat} (hd : decode (sm_by mi) pc = .ok (.invokestatic ix, 3)) (hk : sm_AC.contains (sm_cls mi, ix) = true) (hls : ls.size = sm_mxl mi) (hc : (rest.map fun v => v.category).sum ≤ 8)
    {a0 a1 n1 n2 : Nat} {cA : ClassId} {ty : FieldType} {f g : Nat → α} (hA : ArrOfT s cA ty) (hprim : refKind ty = false) (hfit : ∀ x : α, fits ty (mk x) = true) (htk : ∀ (U : State) (comp : ClassId) (x : α), U.takes comp (mk x)) (hc0 : H[a0]? = some (arrV cA n1 (fun j => mk (f j)))) (hc1 : H[a1]? = some (arrV cA n2 (fun j => mk (g j))))
    {sp dp n : Int32} (h1 : ¬ sp < 0) (h2 : ¬ dp < 0) (h3 : ¬ n < 0) (h4 : sp.toNatClampNeg + n.toNatClampNeg ≤ n1) (h5 : dp.toNatClampNeg + n.toNatClampNeg ≤ n2)
    (kk : ∀ (H' : Heap) (L' : List Loc), H'[a1]? = some (arrV cA n2 (fun j => mk (va_cpy f g sp.toNatClampNeg dp.toNatClampNeg n.toNatClampNeg j))) → H'.size = H.size → (∀ x, x ≠ a1 → H'[x]? = H[x]?) → (∀ x ∈ L', x.base = a1) → W p l e R s m args below meth c H' (locs ++ L') cells slots Q (F0 m (pc + 3) ls rest)) :
    W p l e R s m args below meth c H locs cells slots Q (F0 m pc ls (.int n :: .int dp :: .ref a1 :: .int sp :: .ref a0 :: rest)) := by
  have hw := sm_c_AC _ (List.contains_iff_mem.mp hk)
  have hfr := X.2.2.2.2.2.2.2.1
  have hlo := X.2.2.2.2.2.2.2.2.1
  intro T hT Y
  obtain ⟨-, k0, hk0, cm0, hkk0⟩ := hA n1 (fun j => mk (f j))
  obtain ⟨-, k1, hk1, cm1, hkk1⟩ := hA n2 (fun j => mk (g j))
  obtain ⟨vm', X', step⟩ := Y.arraycopy X.1 X.2.2.2.2.1 (X.use hw) (X.use sm_c_AC2.1) (X.use sm_c_AC2.2.1) (X.use sm_c_AC2.2.2) (src := a0) (dst := a1) (cs := arrV cA n1 (fun j => mk (f j))) (cd := arrV cA n2 (fun j => mk (g j))) (srcPos := sp) (destPos := dp) (n := n) (by rw [hT]; exact hc0) (by rw [hT]; exact hc1)
    (fun _ h => by cases h) (fun _ h => by cases h) (fun h => by cases h) (fun h => by cases h) hk0 hk1 hkk0 hkk1 (by simp [hprim]) h1 h2 h3
    (by rw [sm_nn sp h1, sm_nn n h3, arrV_size]; omega) (by rw [sm_nn dp h2, sm_nn n h3, arrV_size]; omega)
    (fun vm₁ _ i hi => by
      have e : (arrV cA n1 (fun j => mk (f j))).slots.getD (sp.toNatClampNeg + i) .null = mk (f (sp.toNatClampNeg + i)) := by
        rw [Array.getD_eq_getD_getElem?, arrV_read _ _ (by omega)]
        rfl
      rw [e]
      exact ⟨hfit _, htk _ _ _⟩)
    (g := F0 m pc ls (.int n :: .int dp :: .ref a1 :: .int sp :: .ref a0 :: rest)) rfl (by show ls.size = _; rw [hls, X.2.2.2.1]) (rest := rest) rfl (by rw [X.2.1]; exact hd) (by omega)
    (by show 2 * 0 + _ + ((5 + 2) + 11) ≤ _; omega)
  have e1 : copied (arrV cA n1 (fun j => mk (f j))) (arrV cA n2 (fun j => mk (g j))) sp dp n = arrV cA n2 (fun j => mk (va_cpy f g sp.toNatClampNeg dp.toNatClampNeg n.toNatClampNeg j)) := va_copied mk cA cA f g h4
  rw [e1] at X' step
  have hl : a1 < H.size := (Array.getElem?_eq_some_iff.mp hc1).1
  generalize hC : arrV cA n2 (fun j => mk (va_cpy f g sp.toNatClampNeg dp.toNatClampNeg n.toNatClampNeg j)) = C at X' step kk
  have hheap : ((T.setVm vm').setCell a1 C).heap = H.setIfInBounds a1 C := by rw [← hT]; rfl
  obtain ⟨t, b1, b2⟩ := kk (H.setIfInBounds a1 C) _ (by simp [Array.getElem?_setIfInBounds, hl]) (by simp) (fun x hx => by simp [Array.getElem?_setIfInBounds, Ne.symm hx]) (fun x hx => by obtain ⟨z, -, hz⟩ := List.mem_map.mp hx; rw [← hz]) _ hheap X'
  exact ⟨t, step t b1, b2⟩
theorem sm_locs2 {G : sm_G} {locs L' : List Loc} (h3 : ∀ q ∈ locs, sm_z0 G ≤ q.base) {q : Nat} (hq : 26 ≤ q) (hL : ∀ x ∈ L', x.base = sm_ad G q) : ∀ x ∈ locs ++ L', sm_z0 G ≤ x.base := by
  intro x hx
  rcases List.mem_append.mp hx with z | z
  · exact h3 x z
  · rw [hL x z, sm_ad_hi hq]; omega
theorem sm_g_copyI (X : sm_Cx p R s m args meth c mi d) (hK : sm_K G s) {ix : Nat} (hd : decode (sm_by mi) pc = .ok (.invokestatic ix, 3)) (hk : sm_AC.contains (sm_cls mi, ix) = true) (hnL : nL = sm_mxl mi) (hc : (st.map fun v => v.category).sum ≤ 8) {a b n1 n2 : Nat} {rs1 rs2 : List (Option Nat)} (ha : h.1[a]? = some (1, n1, rs1)) (hb : h.1[b]? = some (1, n2, rs2)) (ha2 : 26 ≤ a) (hb2 : 26 ≤ b)
    {sp dp n : Int32} (g1 : ¬ sp < 0) (g2 : ¬ dp < 0) (g3 : ¬ n < 0) (g4 : sp.toNatClampNeg + n.toNatClampNeg ≤ n1) (g5 : dp.toNatClampNeg + n.toNatClampNeg ≤ n2)
    (k : sm_Go p l e R s m args below meth c Q G n0 nL (pc + 3) L st (h.1, sm_cI h.2.1 a b sp.toNatClampNeg dp.toNatClampNeg n.toNatClampNeg, h.2.2)) : sm_Go p l e R s m args below meth c Q G n0 nL pc L (.int n :: .int dp :: .ref b :: .int sp :: .ref a :: st) h := by
  intro ls H locs h1 h2 h3
  have hc0 := (h2.2.2.2 a _ ha2 ha).2.2.1 rfl
  have hc1 := (h2.2.2.2 b _ hb2 hb).2.2.1 rfl
  refine sm_copyW (fun z => Value.int z) X hd hk (by rw [h1.1, hnL]) (by rw [sm_tr_sum]; exact hc) hK.2.1.1 rfl (fun _ => rfl) (fun _ _ _ => trivial) hc0 hc1 g1 g2 g3 g4 g5 fun H' L' e1 e2 e3 e4 => ?_
  refine k ls H' _ h1 (h2.upd (e' := (1, n2, rs2)) hb2 rfl (fun _ _ => rfl) (fun r hr j => ?_) (fun _ _ _ => rfl) hb (show (1 : Nat) ≤ 3 by decide) e2 e3 ⟨fun z => (by cases z), fun _ => ?_, fun z => (by cases z), fun z => (by cases z)⟩) (sm_locs2 h3 hb2 e4)
  · show sm_cI h.2.1 a b _ _ _ r j = h.2.1 r j
    unfold sm_cI; rw [if_neg hr]
  · rw [e1]
    congr 2
    funext j
    show _ = Value.int (sm_cI h.2.1 a b _ _ _ b j)
    unfold sm_cI; rw [if_pos rfl]
theorem sm_g_copyJ (X : sm_Cx p R s m args meth c mi d) (hK : sm_K G s) {ix : Nat} (hd : decode (sm_by mi) pc = .ok (.invokestatic ix, 3)) (hk : sm_AC.contains (sm_cls mi, ix) = true) (hnL : nL = sm_mxl mi) (hc : (st.map fun v => v.category).sum ≤ 8) {a b n1 n2 : Nat} {rs1 rs2 : List (Option Nat)} (ha : h.1[a]? = some (2, n1, rs1)) (hb : h.1[b]? = some (2, n2, rs2)) (ha2 : 26 ≤ a) (hb2 : 26 ≤ b)
    {sp dp n : Int32} (g1 : ¬ sp < 0) (g2 : ¬ dp < 0) (g3 : ¬ n < 0) (g4 : sp.toNatClampNeg + n.toNatClampNeg ≤ n1) (g5 : dp.toNatClampNeg + n.toNatClampNeg ≤ n2)
    (k : sm_Go p l e R s m args below meth c Q G n0 nL (pc + 3) L st (h.1, h.2.1, sm_cJ h.2.2 a b sp.toNatClampNeg dp.toNatClampNeg n.toNatClampNeg)) : sm_Go p l e R s m args below meth c Q G n0 nL pc L (.int n :: .int dp :: .ref b :: .int sp :: .ref a :: st) h := by
  intro ls H locs h1 h2 h3
  have hc0 := (h2.2.2.2 a _ ha2 ha).2.2.2.1 rfl
  have hc1 := (h2.2.2.2 b _ hb2 hb).2.2.2.1 rfl
  refine sm_copyW (fun z => Value.long z) X hd hk (by rw [h1.1, hnL]) (by rw [sm_tr_sum]; exact hc) hK.2.2.1.1 rfl (fun _ => rfl) (fun _ _ _ => trivial) hc0 hc1 g1 g2 g3 g4 g5 fun H' L' e1 e2 e3 e4 => ?_
  refine k ls H' _ h1 (h2.upd (e' := (2, n2, rs2)) hb2 rfl (fun _ _ => rfl) (fun _ _ _ => rfl) (fun r hr j => ?_) hb (show (2 : Nat) ≤ 3 by decide) e2 e3 ⟨fun z => (by cases z), fun z => (by cases z), fun _ => ?_, fun z => (by cases z)⟩) (sm_locs2 h3 hb2 e4)
  · show sm_cJ h.2.2 a b _ _ _ r j = h.2.2 r j
    unfold sm_cJ; rw [if_neg hr]
  · rw [e1]
    congr 2
    funext j
    show _ = Value.long (sm_cJ h.2.2 a b _ _ _ b j)
    unfold sm_cJ; rw [if_pos rfl]
end
