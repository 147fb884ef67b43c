/-! the instructions that read and write cells -/
theorem sm_ad_hi {G : sm_G} {q : Nat} (h : 26 ≤ q) : sm_ad G q = sm_z0 G + (q - 26) := by
  unfold sm_ad; rw [if_neg (by omega)]
theorem sm_ad_ne {G : sm_G} {q r : Nat} (h : 26 ≤ q) (h2 : 26 ≤ r) (hn : q ≠ r) : sm_ad G q ≠ sm_ad G r := by
  rw [sm_ad_hi h, sm_ad_hi h2]; omega
theorem sm_cell.kept {G : sm_G} {h h' : sm_H} {q : Nat} {e : Nat × Nat × List (Option Nat)} {H H' : Heap} (hc : sm_cell G h q e H) (hI : ∀ j, h'.2.1 q j = h.2.1 q j) (hJ : ∀ j, h'.2.2 q j = h.2.2 q j) (hH : H'[sm_ad G q]? = H[sm_ad G q]?) : sm_cell G h' q e H' := by
  have fI : (fun j => Value.int (h'.2.1 q j)) = (fun j => Value.int (h.2.1 q j)) := funext fun j => by rw [hI]
  have fJ : (fun j => Value.long (h'.2.2 q j)) = (fun j => Value.long (h.2.2 q j)) := funext fun j => by rw [hJ]
  refine ⟨fun h0 => ?_, fun h1 => ?_, fun h2 => ?_, fun h3 => ?_⟩
  · obtain ⟨a, b, t⟩ := hc.1 h0
    refine ⟨a, b, (t.kept hH).to fun k _ => ?_⟩
    unfold sm_fv
    rw [hI]
  · rw [hH, fI]; exact hc.2.1 h1
  · rw [hH, fJ]; exact hc.2.2.1 h2
  · obtain ⟨a, t⟩ := hc.2.2.2 h3
    exact ⟨a, by rw [hH]; exact t⟩
/-- one cell has changed -/
theorem sm_Wd.upd {G : sm_G} {h h' : sm_H} {H H' : Heap} {q : Nat} {e' : Nat × Nat × List (Option Nat)} (hW : sm_Wd G h H) (hq : 26 ≤ q) (hlen : h'.1.length = h.1.length) (hs : ∀ r, r ≠ q → h'.1[r]? = h.1[r]?) (hI : ∀ r, r ≠ q → ∀ j, h'.2.1 r j = h.2.1 r j) (hJ : ∀ r, r ≠ q → ∀ j, h'.2.2 r j = h.2.2 r j)
    (he : h'.1[q]? = some e') (h3 : e'.1 ≤ 3) (hz : H'.size = H.size) (ho : ∀ x, x ≠ sm_ad G q → H'[x]? = H[x]?) (hc : sm_cell G h' q e' H') : sm_Wd G h' H' := by
  obtain ⟨w1, w2, w3, w4⟩ := hW
  refine ⟨by rw [hz, hlen]; exact w1, by rw [hlen]; exact w2, fun a ha => ?_, fun r x hr hx => ?_⟩
  · rw [ho a (by rw [sm_ad_hi hq]; omega)]; exact w3 a ha
  · by_cases hrq : r = q
    · subst hrq
      rw [he] at hx
      cases hx
      exact ⟨h3, hc⟩
    · rw [hs r hrq] at hx
      obtain ⟨a, b⟩ := w4 r x hr hx
      exact ⟨a, b.kept (hI r hrq) (hJ r hrq) (ho _ (sm_ad_ne hr hq hrq))⟩
/-- a cell is new -/
theorem sm_Wd.push {G : sm_G} {h h' : sm_H} {H H' : Heap} {e' : Nat × Nat × List (Option Nat)} (hW : sm_Wd G h H) (hs : h'.1 = h.1 ++ [e']) (hI : ∀ r, r ≠ h.1.length → ∀ j, h'.2.1 r j = h.2.1 r j) (hJ : ∀ r, r ≠ h.1.length → ∀ j, h'.2.2 r j = h.2.2 r j)
    (h3 : e'.1 ≤ 3) (hz : H'.size = H.size + 1) (ho : ∀ x, x < H.size → H'[x]? = H[x]?) (hc : sm_cell G h' h.1.length e' H') : sm_Wd G h' H' := by
  obtain ⟨w1, w2, w3, w4⟩ := hW
  have hl : h'.1.length = h.1.length + 1 := by rw [hs]; simp
  refine ⟨by rw [hz, hl]; omega, by rw [hl]; omega, fun a ha => ?_, fun r x hr hx => ?_⟩
  · rw [ho a (by omega)]; exact w3 a ha
  · rw [hs] at hx
    by_cases hrq : r < h.1.length
    · rw [List.getElem?_append_left hrq] at hx
      obtain ⟨a, b⟩ := w4 r x hr hx
      exact ⟨a, b.kept (hI r (by omega)) (hJ r (by omega)) (ho _ (by rw [sm_ad_hi hr]; omega))⟩
    · rw [List.getElem?_append_right (by omega)] at hx
      have hz2 : r - h.1.length < 1 := (List.getElem?_eq_some_iff.mp hx).1
      have e0 : r = h.1.length := by omega
      subst e0
      rw [Nat.sub_self] at hx
      cases hx
      exact ⟨h3, hc⟩
theorem sm_Wd.sz {G : sm_G} {h : sm_H} {H : Heap} (hW : sm_Wd G h H) : H.size = sm_ad G h.1.length := by
  rw [sm_ad_hi hW.2.1]
  have := hW.1
  have := hW.2.1
  omega
/-- a cell that nobody writes -/
theorem sm_Wd.old {G : sm_G} {h : sm_H} {H : Heap} (hW : sm_Wd G h H) {a : Nat} (ha : ¬ sm_A G a) : H[a]? = (sm_H0 G)[a]? := hW.2.2.1 a (Nat.not_le.mp ha)
section
variable {p : Program} {l : Launch} {e : Env} {R : Room} {s : State} {m : MethodId} {args : Array Value} {below : List Frame} {meth : Method} {c : Code} {Q : State → Prop} {G : sm_G} {n0 nL mi d pc : Nat} {L st : List Value} {h : sm_H}
theorem sm_cls_in (X : sm_Cx p R s m args meth c mi d) {k : Nat} (hk : k < 13) : ∀ w ∈ u_ws (sm_c k) (sm_T k) (sm_N k), w ∈ sm_tb := fun w hw => List.mem_filter.mpr ((sm_c_cls k hk).1 w hw)
theorem sm_g_getf (X : sm_Cx p R s m args meth c mi d) (hK : sm_K G s) {ix a b q : Nat} {rs : List (Option Nat)} (hd : decode (sm_by mi) pc = .ok (.getfield ix, 3)) (hk : sm_FT.contains (sm_cls mi, ix, a, b) = true) (hq : 26 ≤ q) (he : h.1[q]? = some (0, a, rs))
    {v : Value} (hv : sm_tr G v = sm_fv G h q a rs b) (k : sm_Go p l e R s m args below meth c Q G n0 nL (pc + 3) L (v :: st) h) : sm_Go p l e R s m args below meth c Q G n0 nL pc L (.ref q :: st) h := by
  intro ls H locs h1 h2 h3
  obtain ⟨hw, hb, ha, hT⟩ := sm_c_FT _ (List.contains_iff_mem.mp hk)
  obtain ⟨-, -, cell, q1, q2, q3, q4⟩ := (h2.2.2.2 q _ hq he).2.1 rfl
  obtain ⟨hS, hfc, kC, hkC, hkind⟩ := hK.1 a ha
  obtain ⟨cf, kf, fi, f, hi, hsl⟩ := hS b hb
  have hk2 := k ls H locs h1 h2 h3
  rw [List.map_cons, hv] at hk2
  refine W.getf X.1 X.2.1 X.2.2.2.2.1 (X.use hw) (by rw [← hT]; exact hi) (u_facts hfc hkC (u_lays X.2.2.2.2.2.1 (sm_cls_in X ha) hb) hi).1 q1 (by rw [q3]; exact fun z => by cases z) (v := sm_fv G h q a rs b) ?_ rfl rfl hd hk2
  rw [hsl]
  exact q4 b hb
def sm_fin (q : sm_Me) : Bool := q.2.2.2.2.2.all fun e => match e.2 with
  | (.putfield _, _, a, b, _) => !(sm_T a b).2.2.2 || (q.1.name == "<init>" && q.2.2.2.2.1 == a)
  | _ => true
set_option maxRecDepth 100000 in
theorem sm_finM : sm_M.all sm_fin = true := by decide +kernel
theorem sm_g_putf (X : sm_Cx p R s m args meth c mi d) (hK : sm_K G s) {ix a b q : Nat} {rs rs' : List (Option Nat)} {I' : sm_I} (hd : decode (sm_by mi) pc = .ok (.putfield ix, 3)) (hk : sm_FT.contains (sm_cls mi, ix, a, b) = true) (hfn : (sm_T a b).2.2.2 = true → (sm_y mi).name = "<init>" ∧ sm_cls mi = a) (hq : 26 ≤ q) (he : h.1[q]? = some (0, a, rs)) (hrs : rs'.length = rs.length)
    {v : Value} (hn : narrow (sm_ty a b) (sm_tr G v) = sm_tr G v) (hfit : fits (sm_ty a b) (sm_tr G v) = true) (hI : ∀ r, r ≠ q → ∀ j, I' r j = h.2.1 r j) (hf : ∀ j, j < sm_N a → updV (sm_fv G h q a rs) b (sm_tr G v) j = sm_fv G (h.1.set q (0, a, rs'), I', h.2.2) q a rs' j)
    (k : sm_Go p l e R s m args below meth c Q G n0 nL (pc + 3) L st (h.1.set q (0, a, rs'), I', h.2.2)) : sm_Go p l e R s m args below meth c Q G n0 nL pc L (v :: .ref q :: st) h := by
  intro ls H locs h1 h2 h3
  obtain ⟨hw, hb, ha, hT⟩ := sm_c_FT _ (List.contains_iff_mem.mp hk)
  have hb : b < sm_N a := hb
  have ha : a < 13 := ha
  obtain ⟨-, hlr, cell, q1, q2, q3, q4⟩ := (h2.2.2.2 q _ hq he).2.1 rfl
  obtain ⟨hS, hfc, kC, hkC, hkind⟩ := hK.1 a ha
  obtain ⟨cf, kf, fi, f, hi, hsl⟩ := hS b hb
  have hts := X.2.2.2.2.2.1
  have hin := sm_cls_in X ha
  have hty : ∀ k, k < sm_N a → parseFieldDescriptor (sm_T a k).2.2.1 = some (sm_ty a k) := sm_c_ty1 ⟨a, ha⟩
  have hnm : ∀ x, x < sm_N a → ∀ y, y < sm_N a → x ≠ y → (sm_T a x).2.1 ≠ (sm_T a y).2.1 := sm_c_nm ⟨a, ha⟩
  have hap : ∀ x y, x < sm_N a → y < sm_N a → x ≠ y → ((sm_D G).2 a) x ≠ ((sm_D G).2 a) y := by
    intro x y hx hy hne
    obtain ⟨_, _, _, fa, hia, ea⟩ := hS x hx
    obtain ⟨_, _, _, fb, hib, eb⟩ := hS y hy
    rw [← ea, ← eb]
    refine u_apart (u_lays hts hin hx) (u_lays hts hin hy) hia hib ?_
    rw [(State.fieldFound?_type hia (hty x hx)).1, (State.fieldFound?_type hib (hty y hy)).1]
    exact hnm x hx y hy hne
  have hst := (u_facts hfc hkC (u_lays hts hin hb) hi).1
  have hlt : q < h.1.length := (List.getElem?_eq_some_iff.mp he).1
  have fin : ∀ H' : Heap, H'[sm_ad G q]? = some (cell.setSlot ((sm_D G).2 a b) (sm_tr G v)) → H'.size = H.size → (∀ x, x ≠ sm_ad G q → H'[x]? = H[x]?) → W p l e R s m args below meth c H' (locs ++ [⟨sm_ad G q, f.slot⟩]) (h.1.length - n0) (1000 * (h.1.length - n0)) Q (F0 m (pc + 3) ls (st.map (sm_tr G))) := by
    intro H' e1 e2 e3
    have hk2 := k ls H' (locs ++ [⟨sm_ad G q, f.slot⟩]) h1 ?_ ?_
    · rw [show (h.1.set q (0, a, rs'), I', h.2.2).1.length = h.1.length from List.length_set] at hk2
      exact hk2
    · refine h2.upd (e' := (0, a, rs')) hq List.length_set (fun r hr => List.getElem?_set_ne (Ne.symm hr)) hI (fun _ _ _ => rfl) (List.getElem?_set_self hlt) (Nat.zero_le _) e2 e3 ⟨fun _ => ⟨ha, hrs.trans hlr, ?_⟩, fun z => (by cases z), fun z => (by cases z), fun z => (by cases z)⟩
      exact t_OB.to (V := updV (sm_fv G h q a rs) b (sm_tr G v)) ⟨_, e1, q2, q3, t_set q4 hap hb _⟩ (fun j hj => hf j hj)
    · intro x hx
      rcases List.mem_append.mp hx with z | z
      · exact h3 x z
      · rw [List.mem_singleton.mp z]
        show sm_z0 G ≤ sm_ad G q
        rw [sm_ad_hi hq]; omega
  have hlay := hts _ (hin _ (u_in_lay hb))
  by_cases hfl : (sm_T a b).2.2.2 = true
  · obtain ⟨g1, g2⟩ := hfn hfl
    unfold u_lay at hlay
    rw [if_pos hfl] at hlay
    have hcf : m.cls = cf := by
      obtain ⟨_, _, c', _, _, _, -, -, hf', -, -, -, hown2, -⟩ := Cond.laysFinal_spec hlay
      have e1 : c' = cf := by have := hi.symm.trans hf'; simp at this; exact this.1.symm
      rw [hT] at hown2
      rw [← e1]
      have ho := X.2.2.2.2.1
      rw [g2] at ho
      exact Option.some.inj (ho.symm.trans hown2)
    have h6 := u_fits hfc hkC hkind (Or.inr hlay) hi (hty b hb) hn hfit
    refine W.putFinK X.1 X.2.1 X.2.2.2.2.1 (X.use hw) (by rw [← hT]; exact hi) hst hcf (X.2.2.2.2.2.2.2.2.2 g1) (by rw [q2]; exact h6) q1 q3 (by rw [hsl]; exact k2_hasslot (q4 b hb)) rfl rfl hd fun H' e1 e2 e3 => fin H' (by rw [← hsl]; exact e1) e2 e3
  · have hfl2 : (sm_T a b).2.2.2 = false := by simpa using hfl
    unfold u_lay at hlay
    rw [if_neg hfl] at hlay
    have h6 := u_store hfc hkC hkind hlay hi (hty b hb) hn hfit
    refine W.putK X.1 X.2.1 (f := f) ⟨X.2.2.2.2.1, X.use hw, ⟨_, _, _, by rw [← hT]; exact hi⟩, hst⟩ (by rw [q2]; exact h6) q1 q3 (by rw [hsl]; exact k2_hasslot (q4 b hb)) rfl rfl hd fun H' e1 e2 e3 => fin H' (by rw [← hsl]; exact e1) e2 e3
theorem sm_in_of {i : Int32} {n : Nat} (hi : sm_in i n = true) : ¬ (i < 0 ∨ n ≤ i.toNatClampNeg) ∧ i.toNatClampNeg < n := by
  have h : ¬ (i < 0 ∨ n ≤ i.toNatClampNeg) := by simpa [sm_in] using hi
  exact ⟨h, Nat.not_le.mp fun q => h (Or.inr q)⟩
/-- an int row of ours, or one that nobody writes -/
theorem sm_int_at (hK : sm_K G s) (hRO : sm_RO G h) {H : Heap} (h2 : sm_Wd G h H) {q n : Nat} {rs : List (Option Nat)} (he : h.1[q]? = some (1, n, rs)) :
    ∃ cell : Cell, H[sm_ad G q]? = some cell ∧ s.isArrayOf cell .int ∧ cell.vm ≠ .unknown ∧ n ≤ cell.slots.size ∧ cell.slots.size.toInt32 = Int32.ofNat n ∧ (∀ j : Nat, j < n → cell.slots[j]? = some (.int (h.2.1 q j))) := by
  by_cases hq : 26 ≤ q
  · have hc := (h2.2.2.2 q _ hq he).2.2.1 rfl
    exact ⟨_, hc, hK.2.1.1 n _, (fun z => by cases z), (by rw [arrV_size]; exact Nat.le_refl n), by rw [arrV_size], fun j hj => arrV_read _ _ hj⟩
  · have hq : q < 26 := by omega
    rw [hRO.1 q hq] at he
    have hq4 : q < 4 := by
      rcases Nat.lt_or_ge q 4 with z | z
      · exact z
      · exfalso
        have : ∀ q : Fin 26, 4 ≤ q.val → ((sm_roS 0)[q.val]?).map (fun x => x.1) ≠ some 1 := by decide
        refine this ⟨q, hq⟩ z ?_
        have e2 : (sm_roS 0)[q]? = (sm_roS (sm_Ln G))[q]? := by
          match q, z with
          | q + 1, _ => rfl
        rw [e2, he]; rfl
    obtain ⟨n', e1, cell, t1, t2, t3, t4, t5, t6, t7⟩ := hK.2.2.2.2.2.1 q hq4
    rw [e1] at he
    cases he
    refine ⟨cell, ?_, t2, t3, t4, t5, fun j hj => ?_⟩
    · rw [show sm_ad G q = sm_ro G q by unfold sm_ad; rw [if_pos hq], h2.old t7]; exact t1
    · rw [t6 j hj, hRO.2 q hq]
theorem sm_byte_at (hK : sm_K G s) (hRO : sm_RO G h) {H : Heap} (h2 : sm_Wd G h H) {q n : Nat} {rs : List (Option Nat)} (he : h.1[q]? = some (4, n, rs)) :
    ∃ cell : Cell, H[sm_ad G q]? = some cell ∧ s.isArrayOf cell .byte ∧ cell.vm ≠ .unknown ∧ n ≤ cell.slots.size ∧ cell.slots.size.toInt32 = Int32.ofNat n ∧ (∀ j : Nat, j < n → cell.slots[j]? = some (.int (h.2.1 q j))) := by
  by_cases hq : 26 ≤ q
  · have hc := (h2.2.2.2 q _ hq he).1
    exact absurd hc (show ¬ (4 : Nat) ≤ 3 by decide)
  · have hq : q < 26 := by omega
    rw [hRO.1 q hq] at he
    have hz : ∃ i : Nat, q = 15 + i ∧ i < 11 ∧ n = sm_len.getD i 0 := by
      have hall : ∀ q : Fin 26, q.val = 0 ∨ ((sm_roS 0)[q.val]?).map (fun x => x.1) ≠ some 4 ∨ (15 ≤ q.val ∧ ((sm_roS 0)[q.val]?).map (fun x => x.2.1) = some (sm_len.getD (q.val - 15) 0)) := by decide
      rcases hall ⟨q, hq⟩ with z | z
      · have z : q = 0 := z
        subst z; cases he
      · have e2 : (sm_roS 0)[q]? = (sm_roS (sm_Ln G))[q]? := by
          match q, he with
          | 0, he => cases he
          | q + 1, _ => rfl
        rcases z with z | ⟨z1, z2⟩
        · exact absurd (by rw [e2, he]; rfl) z
        · refine ⟨q - 15, by have : 15 ≤ q := z1; omega, by omega, ?_⟩
          have z2 : ((sm_roS 0)[q]?).map (fun x => x.2.1) = some (sm_len.getD (q - 15) 0) := z2
          rw [e2, he] at z2
          exact Option.some.inj z2
    obtain ⟨i, rfl, hi, hn⟩ := hz
    obtain ⟨-, -, -, cell, t1, t2, t3, t4, t5, t6, t7⟩ := hK.2.2.2.2.2.2.2.1.1 i hi
    subst hn
    refine ⟨cell, ?_, t2, t3, t4, t5, fun j hj => ?_⟩
    · rw [show sm_ad G (15 + i) = sm_ro G (15 + i) by unfold sm_ad; rw [if_pos hq], h2.old t7]; exact t1
    · rw [t6 j hj, hRO.2 _ hq]
      unfold sm_roI
      rw [if_neg (by omega), if_neg (by omega), if_neg (by omega), show 15 + i - 15 = i by omega]
theorem sm_g_iald (X : sm_Cx p R s m args meth c mi d) (hK : sm_K G s) (hRO : sm_RO G h) {q n : Nat} {rs : List (Option Nat)} {i : Int32} (hd : decode (sm_by mi) pc = .ok (.iaload, 1)) (he : h.1[q]? = some (1, n, rs)) (hi : sm_in i n = true)
    (k : sm_Go p l e R s m args below meth c Q G n0 nL (pc + 1) L (.int (h.2.1 q i.toNatClampNeg) :: st) h) : sm_Go p l e R s m args below meth c Q G n0 nL pc L (.int i :: .ref q :: st) h := by
  intro ls H locs h1 h2 h3
  obtain ⟨hi1, hi2⟩ := sm_in_of hi
  obtain ⟨cell, t1, t2, t3, t4, t5, t6⟩ := sm_int_at hK hRO h2 he
  exact W.iald (v := .int (h.2.1 q i.toNatClampNeg)) X.1 X.2.1 t1 t2 t3 (fun z => hi1 (z.imp id (fun w => Nat.le_trans t4 w))) (t6 _ hi2) rfl rfl hd (k ls H locs h1 h2 h3)
theorem sm_g_bald (X : sm_Cx p R s m args meth c mi d) (hK : sm_K G s) (hRO : sm_RO G h) {q n : Nat} {rs : List (Option Nat)} {i : Int32} (hd : decode (sm_by mi) pc = .ok (.baload, 1)) (he : h.1[q]? = some (4, n, rs)) (hi : sm_in i n = true)
    (k : sm_Go p l e R s m args below meth c Q G n0 nL (pc + 1) L (.int (h.2.1 q i.toNatClampNeg) :: st) h) : sm_Go p l e R s m args below meth c Q G n0 nL pc L (.int i :: .ref q :: st) h := by
  intro ls H locs h1 h2 h3
  obtain ⟨hi1, hi2⟩ := sm_in_of hi
  obtain ⟨cell, t1, t2, t3, t4, t5, t6⟩ := sm_byte_at hK hRO h2 he
  exact W.bald (v := .int (h.2.1 q i.toNatClampNeg)) X.1 X.2.1 t1 t2 t3 (fun z => hi1 (z.imp id (fun w => Nat.le_trans t4 w))) (t6 _ hi2) rfl rfl hd (k ls H locs h1 h2 h3)
theorem sm_RO.no2 (hRO : sm_RO G h) {q n kd : Nat} {rs : List (Option Nat)} (hkd : kd = 0 ∨ kd = 2 ∨ kd = 3) (he : h.1[q]? = some (kd, n, rs)) : 26 ≤ q := by
  rcases Nat.lt_or_ge q 26 with hq | hq
  · exfalso
    rw [hRO.1 q hq] at he
    have hall : ∀ q : Fin 26, q.val = 0 ∨ (((sm_roS 0)[q.val]?).map (fun x => x.1) ≠ some 0 ∧ ((sm_roS 0)[q.val]?).map (fun x => x.1) ≠ some 2 ∧ ((sm_roS 0)[q.val]?).map (fun x => x.1) ≠ some 3) := by decide
    rcases hall ⟨q, hq⟩ with z | ⟨z1, z2, z3⟩
    · have z : q = 0 := z
      subst z
      have : kd = 1 := by have := he; cases this; rfl
      omega
    · have e2 : (sm_roS 0)[q]? = (sm_roS (sm_Ln G))[q]? := by
        match q, he with
        | 0, he => have : kd = 1 := (by cases he; rfl); omega
        | q + 1, _ => rfl
      rw [e2, he] at z1 z2 z3
      rcases hkd with rfl | rfl | rfl
      · exact z1 rfl
      · exact z2 rfl
      · exact z3 rfl
  · exact hq
theorem sm_g_lald (X : sm_Cx p R s m args meth c mi d) (hK : sm_K G s) (hRO : sm_RO G h) {q n : Nat} {rs : List (Option Nat)} {i : Int32} (hd : decode (sm_by mi) pc = .ok (.laload, 1)) (he : h.1[q]? = some (2, n, rs)) (hi : sm_in i n = true)
    (k : sm_Go p l e R s m args below meth c Q G n0 nL (pc + 1) L (.long (h.2.2 q i.toNatClampNeg) :: st) h) : sm_Go p l e R s m args below meth c Q G n0 nL pc L (.int i :: .ref q :: st) h := by
  intro ls H locs h1 h2 h3
  obtain ⟨hi1, hi2⟩ := sm_in_of hi
  have hc := (h2.2.2.2 q _ (hRO.no2 (Or.inr (Or.inl rfl)) he) he).2.2.2.1 rfl
  exact W.lald (v := .long (h.2.2 q i.toNatClampNeg)) X.1 X.2.1 hc (hK.2.2.1.1 n _) (fun z => by cases z) (by rw [arrV_size]; exact hi1) (arrV_read _ _ hi2) rfl rfl hd (k ls H locs h1 h2 h3)
theorem sm_g_aald (X : sm_Cx p R s m args meth c mi d) (hK : sm_K G s) (hRO : sm_RO G h) {q n : Nat} {rs : List (Option Nat)} {i : Int32} (hd : decode (sm_by mi) pc = .ok (.aaload, 1)) (he : h.1[q]? = some (3, n, rs)) (hi : sm_in i rs.length = true)
    (k : sm_Go p l e R s m args below meth c Q G n0 nL (pc + 1) L (sm_rv (rs.getD i.toNatClampNeg none) :: st) h) : sm_Go p l e R s m args below meth c Q G n0 nL pc L (.int i :: .ref q :: st) h := by
  intro ls H locs h1 h2 h3
  obtain ⟨hi1, hi2⟩ := sm_in_of hi
  obtain ⟨hn, hc⟩ := (h2.2.2.2 q _ (hRO.no2 (Or.inr (Or.inr rfl)) he) he).2.2.2.2 rfl
  exact W.aald (v := sm_tr G (sm_rv (rs.getD i.toNatClampNeg none))) X.1 X.2.1 hc ((hK.2.2.2.1 n hn).1.1 rs.length _) rfl (fun z => by cases z) (by rw [arrV_size]; exact hi1) (arrV_read _ _ hi2) rfl rfl hd (k ls H locs h1 h2 h3)
theorem sm_g_alen (X : sm_Cx p R s m args meth c mi d) (hK : sm_K G s) (hRO : sm_RO G h) {q n kd : Nat} {rs : List (Option Nat)} (hd : decode (sm_by mi) pc = .ok (.arraylength, 1)) (he : h.1[q]? = some (kd, n, rs)) (hkd : kd = 1 ∨ kd = 2 ∨ kd = 4)
    (k : sm_Go p l e R s m args below meth c Q G n0 nL (pc + 1) L (.int (Int32.ofNat n) :: st) h) : sm_Go p l e R s m args below meth c Q G n0 nL pc L (.ref q :: st) h := by
  intro ls H locs h1 h2 h3
  rcases hkd with rfl | rfl | rfl
  · obtain ⟨cell, t1, t2, t3, t4, t5, t6⟩ := sm_int_at hK hRO h2 he
    exact W.alen (n := Int32.ofNat n) X.1 X.2.1 t1 t2 t5 rfl rfl hd (k ls H locs h1 h2 h3)
  · have hc := (h2.2.2.2 q _ (hRO.no2 (Or.inr (Or.inl rfl)) he) he).2.2.2.1 rfl
    exact W.alen (n := Int32.ofNat n) X.1 X.2.1 hc (hK.2.2.1.1 n _) (by rw [arrV_size]) rfl rfl hd (k ls H locs h1 h2 h3)
  · obtain ⟨cell, t1, t2, t3, t4, t5, t6⟩ := sm_byte_at hK hRO h2 he
    exact W.alen (n := Int32.ofNat n) X.1 X.2.1 t1 t2 t5 rfl rfl hd (k ls H locs h1 h2 h3)
theorem sm_locs {G : sm_G} {locs : List Loc} (h3 : ∀ q ∈ locs, sm_z0 G ≤ q.base) {q : Nat} (hq : 26 ≤ q) (j : Nat) : ∀ x ∈ locs ++ [⟨sm_ad G q, j⟩], sm_z0 G ≤ x.base := by
  intro x hx
  rcases List.mem_append.mp hx with z | z
  · exact h3 x z
  · rw [List.mem_singleton.mp z]
    show sm_z0 G ≤ sm_ad G q
    rw [sm_ad_hi hq]; omega
theorem sm_g_iast (X : sm_Cx p R s m args meth c mi d) (hK : sm_K G s) {q n : Nat} {rs : List (Option Nat)} {i x : Int32} (hd : decode (sm_by mi) pc = .ok (.iastore, 1)) (he : h.1[q]? = some (1, n, rs)) (hi : sm_in i n = true) (hq : 26 ≤ q)
    (k : sm_Go p l e R s m args below meth c Q G n0 nL (pc + 1) L st (h.1, sm_uI h.2.1 q i.toNatClampNeg x, h.2.2)) : sm_Go p l e R s m args below meth c Q G n0 nL pc L (.int x :: .int i :: .ref q :: st) h := by
  intro ls H locs h1 h2 h3
  obtain ⟨hi1, hi2⟩ := sm_in_of hi
  have hc := (h2.2.2.2 q _ hq he).2.2.1 rfl
  refine W.iast X.1 X.2.1 hc (hK.2.1.1 n _) (fun z => by cases z) (by rw [arrV_size]; exact hi1) rfl rfl hd fun H' e1 e2 e3 => ?_
  refine k ls H' _ h1 (h2.upd (e' := (1, n, rs)) hq rfl (fun _ _ => rfl) (fun r hr j => ?_) (fun _ _ _ => rfl) he (show (1 : Nat) ≤ 3 by decide) e2 e3 ⟨fun z => (by cases z), fun _ => ?_, fun z => (by cases z), fun z => (by cases z)⟩) (sm_locs h3 hq _)
  · show sm_uI h.2.1 q i.toNatClampNeg x r j = h.2.1 r j
    unfold sm_uI; rw [if_neg (fun z => hr z.1)]
  · rw [e1, arrV_store]
    congr 2
    funext j
    show updV _ _ _ j = Value.int (sm_uI h.2.1 q i.toNatClampNeg x q j)
    unfold updV sm_uI
    by_cases hj : j = i.toNatClampNeg
    · rw [if_pos hj, if_pos ⟨rfl, hj⟩]
    · rw [if_neg hj, if_neg (fun z => hj z.2)]
theorem sm_g_last (X : sm_Cx p R s m args meth c mi d) (hK : sm_K G s) {q n : Nat} {rs : List (Option Nat)} {i : Int32} {x : Int64} (hd : decode (sm_by mi) pc = .ok (.lastore, 1)) (he : h.1[q]? = some (2, n, rs)) (hi : sm_in i n = true) (hq : 26 ≤ q)
    (k : sm_Go p l e R s m args below meth c Q G n0 nL (pc + 1) L st (h.1, h.2.1, sm_uJ h.2.2 q i.toNatClampNeg x)) : sm_Go p l e R s m args below meth c Q G n0 nL pc L (.long x :: .int i :: .ref q :: st) h := by
  intro ls H locs h1 h2 h3
  obtain ⟨hi1, hi2⟩ := sm_in_of hi
  have hc := (h2.2.2.2 q _ hq he).2.2.2.1 rfl
  refine W.last X.1 X.2.1 hc (hK.2.2.1.1 n _) (fun z => by cases z) (by rw [arrV_size]; exact hi1) rfl rfl hd fun H' e1 e2 e3 => ?_
  refine k ls H' _ h1 (h2.upd (e' := (2, n, rs)) hq rfl (fun _ _ => rfl) (fun _ _ _ => rfl) (fun r hr j => ?_) he (show (2 : Nat) ≤ 3 by decide) e2 e3 ⟨fun z => (by cases z), fun z => (by cases z), fun _ => ?_, fun z => (by cases z)⟩) (sm_locs h3 hq _)
  · show sm_uJ h.2.2 q i.toNatClampNeg x r j = h.2.2 r j
    unfold sm_uJ; rw [if_neg (fun z => hr z.1)]
  · rw [e1, arrV_store]
    congr 2
    funext j
    show updV _ _ _ j = Value.long (sm_uJ h.2.2 q i.toNatClampNeg x q j)
    unfold updV sm_uJ
    by_cases hj : j = i.toNatClampNeg
    · rw [if_pos hj, if_pos ⟨rfl, hj⟩]
    · rw [if_neg hj, if_neg (fun z => hj z.2)]
theorem sm_g_aast (X : sm_Cx p R s m args meth c mi d) (hK : sm_K G s) {q r cc : Nat} {rs rs2 : List (Option Nat)} {i : Int32} (hd : decode (sm_by mi) pc = .ok (.aastore, 1)) (he : h.1[q]? = some (3, cc, rs)) (hr : h.1[r]? = some (0, cc, rs2)) (hi : sm_in i rs.length = true) (hq : 26 ≤ q) (hr2 : 26 ≤ r)
    (k : sm_Go p l e R s m args below meth c Q G n0 nL (pc + 1) L st (h.1.set q (3, cc, rs.set i.toNatClampNeg (some r)), h.2.1, h.2.2)) : sm_Go p l e R s m args below meth c Q G n0 nL pc L (.ref r :: .int i :: .ref q :: st) h := by
  intro ls H locs h1 h2 h3
  obtain ⟨hi1, hi2⟩ := sm_in_of hi
  obtain ⟨hn, hc⟩ := (h2.2.2.2 q _ hq he).2.2.2.2 rfl
  obtain ⟨hcc, -, cellV, g1, g2, g3, -⟩ := (h2.2.2.2 r _ hr2 hr).2.1 rfl
  have hcls := (hK.1 cc hcc).2
  obtain ⟨kA, comp, k1, k2, k3, -⟩ := (hK.2.2.2.1 cc hn).1.2
  have hcomp : comp = (sm_D G).1 cc := Option.some.inj (k3.symm.trans hcls.1)
  subst hcomp
  obtain ⟨kC, hkC, -⟩ := hcls.2
  have hlt : q < h.1.length := (List.getElem?_eq_some_iff.mp he).1
  refine W.aast X.1 X.2.1 hc (fun q h => by cases h) (fun h => by cases h) k1 k2 rfl hkC ⟨fun z => hi1 (Or.inl z), by rw [arrV_size]; exact hi2⟩ g1 (fun q h => by rw [g3] at h; cases h) (by rw [g2]; exact hkC) (by rw [g2]; exact va_asg _ _) rfl rfl hd fun H' e1 e2 e3 => ?_
  have hk2 := k ls H' (locs ++ [⟨sm_ad G q, i.toNatClampNeg⟩]) h1 (h2.upd (e' := (3, cc, rs.set i.toNatClampNeg (some r))) hq List.length_set (fun r hr => List.getElem?_set_ne (Ne.symm hr)) (fun _ _ _ => rfl) (fun _ _ _ => rfl) (List.getElem?_set_self hlt) (show (3 : Nat) ≤ 3 by decide) e2 e3 ⟨fun z => (by cases z), fun z => (by cases z), fun z => (by cases z), fun _ => ⟨hn, ?_⟩⟩) (sm_locs h3 hq _)
  · rw [show (h.1.set q (3, cc, rs.set i.toNatClampNeg (some r)), h.2.1, h.2.2).1.length = h.1.length from List.length_set] at hk2
    exact hk2
  · rw [e1, arrV_store]
    show some (arrV _ _ _) = some (arrV _ (rs.set i.toNatClampNeg (some r)).length _)
    rw [List.length_set]
    congr 2
    funext j
    unfold updV
    by_cases hj : j = i.toNatClampNeg
    · subst hj
      rw [if_pos rfl]
      simp [List.getD_eq_getElem?_getD, hi2, sm_rv, sm_tr]
    · rw [if_neg hj]
      simp [List.getD_eq_getElem?_getD, List.getElem?_set_ne (Ne.symm hj)]
end
