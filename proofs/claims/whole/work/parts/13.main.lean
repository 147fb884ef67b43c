/-! contracts out of runs, and runs out of contracts -/
def sm_Pc (G : sm_G) (h : sm_H) (as : List Value) : Array Value → State → Prop := fun v U => v = (as.map (sm_tr G)).toArray ∧ sm_Wd G h U.heap ∧ sm_K G U
def sm_Qc (G : sm_G) (r : Option Value) (h : sm_H) : Array Value → State → Outcome → State → Prop := fun _ _ o t => o = .returned (r.map (sm_tr G)) ∧ sm_Wd G h t.heap
def sm_rm (d n : Nat) : Room := { frames := d + 1, cells := n, slots := 1000 * n, locals := 60 * (d + 1) }
def sm_ws (k : Nat) : List Cond := .code (sm_y k) (sm_by k) (sm_mxl k) (sm_ret k) :: sm_tb
theorem sm_good {ws : List Cond} (h : ∀ w ∈ ws, sm_w w) : GoodIn sm_tb ws := fun w hw => ⟨List.mem_filter.mpr (h w hw), good_of_word (h w hw).2⟩
theorem sm_tb_w : ∀ w ∈ sm_tb, sm_w w := fun _ hw => List.mem_filter.mp hw
theorem sm_ws_w {k : Nat} (hk : k < 251) : ∀ w ∈ sm_ws k, sm_w w := fun w hw => (List.mem_cons.mp hw).elim (fun e => e ▸ (sm_qk hk).1) (sm_tb_w w)
/-- every return that gives r, over these data, comes to Q -/
def sm_Fin (p : Program) (l : Launch) (e : Env) (R : Room) (s : State) (m : MethodId) (args : Array Value) (below : List Frame) (meth : Method) (c : Code) (Q : State → Prop) (G : sm_G) (n0 mi : Nat) (r : Option Value) (h : sm_H) : Prop :=
  ∀ (pc : Nat) (L st : List Value) (i : Instr) (len a b : Nat) (z : Int), sm_cd mi pc = some (i, len, a, b, z) → sm_rt mi i st = some r → sm_Go p l e R s m args below meth c Q G n0 (sm_mxl mi) pc L st h
def sm_Sim (l : Launch) (G : sm_G) (d mi pc : Nat) (L st : List Value) (h : sm_H) (r : Option Value) (h' : sm_H) : Prop :=
  ∀ (p : Program) (e : Env) (R : Room) (s : State) (m : MethodId) (args : Array Value) (below : List Frame) (meth : Method) (c : Code) (Q : State → Prop) (n0 : Nat), sm_Cx p R s m args meth c mi d → sm_K G s → sm_RO G h → 26 ≤ h.1.length → n0 ≤ h.1.length → h'.1.length - n0 ≤ R.cells → 1000 * (h'.1.length - n0) ≤ R.slots →
    sm_Fin p l e R s m args below meth c Q G n0 mi r h' → sm_Go p l e R s m args below meth c Q G n0 (sm_mxl mi) pc L st h
theorem sm_retW {p : Program} {l : Launch} {e : Env} {R : Room} {s : State} {m : MethodId} {args : Array Value} {below : List Frame} {meth : Method} {c : Code} {G : sm_G} {n0 mi d : Nat} {r : Option Value} {h : sm_H} (X : sm_Cx p R s m args meth c mi d) :
    sm_Fin p l e R s m args below meth c (MQ below (sm_Qc G r h) args s (h.1.length - n0) (1000 * (h.1.length - n0)) (fun q => sm_z0 G ≤ q)) G n0 mi r h := by
  intro pc L st i len a b z hcd hrt ls H locs h1 h2 h3
  obtain ⟨hd, hl, -, -⟩ := sm_cd_ok hcd
  have hlocks := X.2.2.2.2.2.2.1
  have hr := X.2.2.1
  unfold sm_rt at hrt
  split at hrt
  · rename_i v
    obtain rfl : len = 1 := by simpa [sm_ilen] using hl
    split at hrt
    · rename_i ty hty
      split at hrt
      · rename_i hn
        cases hrt
        exact W.zret X.1 X.2.1 (hr.trans hty) hn.1 (fun t ht _ => ⟨rfl, by rw [ht]; exact h2⟩) h3 hd
      · cases hrt
    · cases hrt
  · rename_i v
    obtain rfl : len = 1 := by simpa [sm_ilen] using hl
    split at hrt
    · rename_i hty
      cases hrt
      exact W.lret X.1 X.2.1 (hr.trans hty) (fun t ht _ => ⟨rfl, by rw [ht]; exact h2⟩) h3 hd
    · cases hrt
  · rename_i v
    obtain rfl : len = 1 := by simpa [sm_ilen] using hl
    split at hrt
    · rename_i hty
      cases hrt
      exact W.aret X.1 X.2.1 (hr.trans hty) (Or.inl ⟨_, rfl⟩) (Or.inr ⟨_, rfl⟩) (fun t ht _ => ⟨rfl, by rw [ht]; exact h2⟩) h3 hd
    · cases hrt
  · obtain rfl : len = 1 := by simpa [sm_ilen] using hl
    split at hrt
    · rename_i hty
      cases hrt
      exact W.vret X.1 X.2.1 (hr.trans hty) (fun t ht _ => ⟨rfl, by rw [ht]; exact h2⟩) h3 hd
    · cases hrt
  · cases hrt
theorem sm_met {l : Launch} {G : sm_G} {d k : Nat} {as : List Value} {h : sm_H} {r : Option Value} {h' : sm_H} (IH : sm_Sim l G d k 0 (sm_mk (sm_mxl k) as) [] h r h') (hk : k < 251) (hal : (sm_al as).length ≤ sm_mxl k) (hRO : sm_RO G h) (h26 : 26 ≤ h.1.length) :
    Met l (sm_y k) (sm_ws k) (sm_rm d (h'.1.length - h.1.length)) (sm_Pc G h as) (sm_Qc G r h') (h'.1.length - h.1.length) (1000 * (h'.1.length - h.1.length)) (fun q => sm_z0 G ≤ q) := by
  refine Met.ofW (cc := sm_by k) (maxL := sm_mxl k) (ret := sm_ret k) (sm_qk hk).2.1 rfl ?_
  intro p e s m args below meth c s₁ B hml hv
  obtain ⟨rfl, hW, hK⟩ := hv
  have hts := atoms_spec (ws := sm_ws k) B.pre
  have hown : s.vm.findClass (sm_c (sm_cls k)) = some m.cls := by rw [(sm_qk hk).2.2.2.2]; exact findClass_of_methodNamed B.named
  have X : sm_Cx p (sm_rm d (h'.1.length - h.1.length)) s m (as.map (sm_tr G)).toArray meth c k d := ⟨B.exec, B.bytes, B.returns, hml, hown, fun w hw => hts w (List.mem_cons_of_mem _ hw), B.notSynchronized, Nat.le_refl _, Nat.le_refl _, fun hq => (name_of_methodNamed B.named B.method).1.trans hq⟩
  have hGo := IH p e _ s m _ below meth c _ h.1.length X hK hRO h26 (Nat.le_refl _) (Nat.le_refl _) (Nat.le_refl _) (sm_retW X)
  rw [lg_entry_eq]
  have hW2 := hGo _ s.heap [] (sm_enter G hal) hW (fun _ hq => absurd hq List.not_mem_nil)
  rw [Nat.sub_self, Nat.mul_zero] at hW2
  exact hW2
theorem sm_blind (G : sm_G) (h : sm_H) (as : List Value) : FrameBlind (sm_Pc G h as) := fun _ _ _ _ hv => ⟨hv.1, hv.2.1, hv.2.2.same rfl⟩
section
variable {p : Program} {l : Launch} {e : Env} {R : Room} {s : State} {m : MethodId} {args : Array Value} {below : List Frame} {meth : Method} {c : Code} {Q : State → Prop} {G : sm_G} {n0 nL mi d pc : Nat} {L st : List Value} {h : sm_H}
/-- behind a call -/
theorem sm_cont {H : Heap} {locs : List Loc} {cells slots mc ms : Nat} {ls : Array Slot} {st0 rest : List Value} {a : Array Value} {r : Option Value} {h1 : sm_H} (hr : va_Run p l e R s m args below meth c H locs cells slots mc ms (F0 m pc ls st0) rest (sm_Qc G r h1 a) (fun q => sm_z0 G ≤ q)) (h3 : ∀ q ∈ locs, sm_z0 G ≤ q.base)
    (kk : ∀ (H1 : Heap) (locs1 : List Loc), sm_Wd G h1 H1 → (∀ q ∈ locs1, sm_z0 G ≤ q.base) → W p l e R s m args below meth c H1 locs1 (cells + mc) (slots + ms) Q (F0 m (pc + 3) ls ((r.map (sm_tr G)).toList ++ rest))) : W p l e R s m args below meth c H locs cells slots Q (F0 m pc ls st0) := by
  intro T hT X
  obtain ⟨v, st₀, t, T', L', -, X', hL, e1, e2, ⟨hv, hW⟩, stp⟩ := hr T hT X
  cases hv
  obtain ⟨t2, a1, b1⟩ := kk T'.heap (locs ++ L') (by rw [e1]; exact hW) (fun q hq => (List.mem_append.mp hq).elim (h3 q) (fun z => hL q z)) T' rfl X'
  exact ⟨t2, stp t2 a1, b1⟩
theorem sm_pre (hK : sm_K G s) {H : Heap} (h2 : sm_Wd G h H) (as : List Value) : ∀ U : State, U.heap = H → s.WarmedH U.vm → sm_Pc G h as (as.map (sm_tr G)).toArray U := fun _ hU hW => ⟨rfl, by rw [hU]; exact h2, hK.warm hW⟩
/-- the object that a call is made on is of the class -/
theorem sm_recv (hK : sm_K G s) {H : Heap} (h2 : sm_Wd G h H) {q k : Nat} (hq : sm_rc h q = sm_cls k) (hk : k < 251) : ∃ cellB : Cell, H[sm_ad G q]? = some cellB ∧ cellB.vm.isStatics = false ∧ s.vm.findClass (sm_y k).cls = some cellB.cls := by
  rw [← (sm_qk hk).2.2.2.2, ← hq]
  have hlt : sm_cls k < 21 := by
    have : ∀ q ∈ sm_M, q.2.2.2.2.1 < 21 := by decide +kernel
    unfold sm_cls
    split
    · rename_i qq hqq
      exact this qq (List.mem_of_getElem? hqq)
    · omega
  rw [← hq] at hlt
  unfold sm_rc at hlt ⊢
  split at hlt
  · rename_i kd cc rs he
    show ∃ cellB : Cell, H[sm_ad G q]? = some cellB ∧ cellB.vm.isStatics = false ∧ s.vm.findClass (sm_c (if kd = 0 ∧ 26 ≤ q then cc else if kd = 5 ∧ 4 ≤ q ∧ q < 15 then 13 else 99)) = some cellB.cls
    by_cases hc : kd = 0 ∧ 26 ≤ q
    · rw [if_pos hc]
      obtain ⟨rfl, hq26⟩ := hc
      obtain ⟨hcc, -, cell, g1, g2, g3, -⟩ := (h2.2.2.2 q _ hq26 he).2.1 rfl
      exact ⟨cell, g1, by rw [g3]; rfl, by rw [g2]; exact (hK.1 cc hcc).2.1⟩
    · rw [if_neg hc]
      rw [if_neg hc] at hlt
      by_cases hc2 : kd = 5 ∧ 4 ≤ q ∧ q < 15
      · rw [if_pos hc2]
        obtain ⟨-, hq4, hq15⟩ := hc2
        obtain ⟨i, rfl⟩ : ∃ i, q = 4 + i := ⟨q - 4, by omega⟩
        obtain ⟨⟨cell, y1, y2, y3, y4⟩, -⟩ := hK.2.2.2.2.2.2.2.1.1 i (by omega)
        have ea : sm_ad G (4 + i) = sm_ro G (4 + i) := by unfold sm_ad; rw [if_pos (by omega)]
        exact ⟨cell, by rw [ea, h2.old y4]; exact y1, y2, y3⟩
      · rw [if_neg hc2] at hlt
        omega
  · omega
theorem sm_st_split {st : List Value} {b : Nat} (hb : b ≤ st.length) : st = (st.take b).reverse.reverse ++ st.drop b := by rw [List.reverse_reverse, List.take_append_drop]
theorem sm_st_split2 {st : List Value} {b q : Nat} (hq : st[b]? = some (.ref q)) : (st.take (b + 1)).reverse = .ref q :: (st.take b).reverse ∧ st = (st.take b).reverse.reverse ++ .ref q :: st.drop (b + 1) := by
  have hb : b < st.length := (List.getElem?_eq_some_iff.mp hq).1
  have e1 : st.take (b + 1) = st.take b ++ [.ref q] := by rw [List.take_succ, hq]; rfl
  refine ⟨by rw [e1, List.reverse_append]; rfl, ?_⟩
  rw [List.reverse_reverse]
  conv => lhs; rw [← List.take_append_drop (b + 1) st, e1]
  rw [List.append_assoc]; rfl
theorem sm_ws_eq (k : Nat) : sm_ws k = Cond.code (sm_y k) (sm_by k) (sm_mxl k) (sm_ret k) :: sm_tb := rfl
theorem sm_ws_eq0 {k : Nat} (h : sm_ret k = none) : sm_ws k = Cond.code (sm_y k) (sm_by k) (sm_mxl k) none :: sm_tb := by rw [sm_ws_eq, h]
theorem sm_bS (X : sm_Cx p R s m args meth c mi (d + 1)) {ix a b nn : Nat} (w1 : sm_w (.methodLink (sm_c (sm_cls mi)) ix (sm_y a))) (w2 : sm_w (.static (sm_y a))) (w3 : (parseMethodDescriptor (sm_y a).desc).map (fun d => d.parameters.length) = some b) (w4 : a < 251) (hR : (sm_rm d nn).frames + 1 ≤ R.frames ∧ 8 + (sm_mxl a + 11) + (sm_rm d nn).locals ≤ R.locals) :
    CallB R s args (sm_c (sm_cls mi)) ix (sm_y a) (sm_by a) (sm_mxl a) (sm_ret a) (sm_ws a) (sm_rm d nn) nn (1000 * nn) b ∧ (Cond.static (sm_y a)).before args s = true :=
  ⟨callB_of (Ts := sm_tb) (ws' := sm_tb) b X.2.2.2.2.2.1 (sm_good (sm_ws_w w4)) (sm_ws_eq a) rfl rfl (X.use (sm_qk w4).2.2.1) (X.use w1) ⟨(sm_qk w4).2.2.2.1.1, (sm_qk w4).2.2.2.1.2, w3⟩ hR, X.use w2⟩
theorem sm_bI (X : sm_Cx p R s m args meth c mi (d + 1)) {ix a b nn : Nat} (w1 : sm_w (.methodLink (sm_c (sm_cls mi)) ix (sm_y a))) (w2 : sm_w (.instanceMethod (sm_y a))) (w7 : (sm_y a).name = "<init>") (w5 : sm_ret a = none) (w3 : (parseMethodDescriptor (sm_y a).desc).map (fun d => d.parameters.length) = some b) (w4 : a < 251) (hR : (sm_rm d nn).frames + 1 ≤ R.frames ∧ 8 + (sm_mxl a + 11) + (sm_rm d nn).locals ≤ R.locals) :
    CallB R s args (sm_c (sm_cls mi)) ix (sm_y a) (sm_by a) (sm_mxl a) none (sm_ws a) (sm_rm d nn) nn (1000 * nn) b ∧ (sm_y a).name = "<init>" ∧ (Cond.instanceMethod (sm_y a)).before args s = true :=
  ⟨callB_of (Ts := sm_tb) (ws' := sm_tb) b X.2.2.2.2.2.1 (sm_good (sm_ws_w w4)) (sm_ws_eq0 w5) rfl rfl (X.use (sm_qk w4).2.2.1) (X.use w1) ⟨(sm_qk w4).2.2.2.1.1, (sm_qk w4).2.2.2.1.2, w3⟩ hR, w7, X.use w2⟩
theorem sm_bV (X : sm_Cx p R s m args meth c mi (d + 1)) {ix a b nn : Nat} (w1 : sm_w (.methodLink (sm_c (sm_cls mi)) ix (sm_y a))) (w2 : sm_w (.instanceMethod (sm_y a))) (w7 : sm_w (.selects (sm_y a).cls (sm_y a) (sm_y a))) (w3 : (parseMethodDescriptor (sm_y a).desc).map (fun d => d.parameters.length) = some b) (w4 : a < 251) (hR : (sm_rm d nn).frames + 1 ≤ R.frames ∧ 8 + (sm_mxl a + 11) + (sm_rm d nn).locals ≤ R.locals) :
    CallW R s args (sm_c (sm_cls mi)) (sm_y a).cls ix (sm_y a) (sm_by a) (sm_mxl a) (sm_ret a) (sm_ws a) (sm_rm d nn) nn (1000 * nn) b :=
  ⟨callB_of (Ts := sm_tb) (ws' := sm_tb) b X.2.2.2.2.2.1 (sm_good (sm_ws_w w4)) (sm_ws_eq a) rfl rfl (X.use (sm_qk w4).2.2.1) (X.use w1) ⟨(sm_qk w4).2.2.2.1.1, (sm_qk w4).2.2.2.1.2, w3⟩ hR, X.use w2, X.use w7⟩
theorem sm_bN (X : sm_Cx p R s m args meth c mi (d + 1)) (hK : sm_K G s) {ix a b nn : Nat} (hq : (sm_cls mi, ix, a, b) ∈ sm_MIN ++ sm_MSN) {ret : Option FieldType} (w5 : sm_ret a = ret) (w3 : (parseMethodDescriptor (sm_y a).desc).map (fun d => d.parameters.length) = some b) (w4 : a < 251) (hR : (sm_rm d nn).frames + 1 ≤ R.frames ∧ 8 + (sm_mxl a + 11) + (sm_rm d nn).locals ≤ R.locals) :
    va_CN R s args (sm_c (sm_cls mi)) ix (sm_y a) "DebtSerenade" (sm_by a) (sm_mxl a) ret (sm_ws a) (sm_rm d nn) nn (1000 * nn) b :=
  have hz : va_Nw (.methodLinkNest (sm_c (sm_cls mi)) ix (sm_y a) "DebtSerenade") s := hK.2.2.2.2.1 (sm_cls mi, ix, a, b) hq
  have hw9 : sm_ws a = Cond.code (sm_y a) (sm_by a) (sm_mxl a) ret :: sm_tb := by rw [sm_ws_eq, w5]
  va_cnB (own := sm_c (sm_cls mi)) (host := "DebtSerenade") (index := ix) (y := sm_y a) (bytes := sm_by a) (maxL := sm_mxl a) (ret := ret) (ws := sm_ws a) (rm := sm_rm d nn) (Ts := sm_tb) (ws' := sm_tb) b X.2.2.2.2.2.1 (sm_good (sm_ws_w w4)) hw9 rfl rfl hz (X.use (sm_qk w4).2.2.1) ⟨(sm_qk w4).2.2.2.1.1, (sm_qk w4).2.2.2.1.2, w3⟩ hR
/-- a call -/
theorem sm_callW (X : sm_Cx p R s m args meth c mi (d + 1)) (hK : sm_K G s) (hnL : nL = sm_mxl mi) {i : Instr} {len a b : Nat} {z : Int} (hcd : sm_cd mi pc = some (i, len, a, b, z)) (hic : sm_isc i = true) (ha : a < 9000) {k : Nat} {as rest : List Value} (hcall : sm_call i a b st h = some (k, as, rest)) (hal : (sm_al as).length ≤ sm_mxl k)
    {r : Option Value} {h1 : sm_H} (IH : sm_Sim l G d k 0 (sm_mk (sm_mxl k) as) [] h r h1) (hRO : sm_RO G h) (h26 : 26 ≤ h.1.length) (hn : n0 ≤ h.1.length) (hl1 : h.1.length ≤ h1.1.length) (hR : h1.1.length - n0 ≤ R.cells) (hS : 1000 * (h1.1.length - n0) ≤ R.slots)
    (kk : sm_Go p l e R s m args below meth c Q G n0 nL (pc + 3) L (r.toList ++ rest) h1) : sm_Go p l e R s m args below meth c Q G n0 nL pc L st h := by
  intro ls H locs g1 g2 g3
  obtain ⟨hd, hln, hk, -⟩ := sm_cd_ok hcd
  have hfr := X.2.2.2.2.2.2.2.1
  have hlo := X.2.2.2.2.2.2.2.2.1
  have S : CallFix p m c (sm_by mi) (sm_mxl mi) s args sm_tb (sm_c (sm_cls mi)) := ⟨X.1, X.2.1, X.2.2.2.1, X.2.2.2.2.1, X.2.2.2.2.2.1⟩
  have hls : ls.size = sm_mxl mi := by rw [g1.1, hnL]
  have hroom : ∀ {kk' : Nat}, kk' < 251 → (sm_rm d (h1.1.length - h.1.length)).frames + 1 ≤ R.frames ∧ 8 + (sm_mxl kk' + 11) + (sm_rm d (h1.1.length - h.1.length)).locals ≤ R.locals := by
    intro kk' hk'
    have := sm_mxl_le hk'
    refine ⟨hfr, ?_⟩
    show 8 + (sm_mxl kk' + 11) + 60 * (d + 1) ≤ R.locals
    omega
  have hfit : (h.1.length - n0) + (h1.1.length - h.1.length) ≤ R.cells ∧ 1000 * (h.1.length - n0) + 1000 * (h1.1.length - h.1.length) ≤ R.slots := by omega
  have hcont : ∀ (av : Array Value) (st0 : List Value), va_Run p l e R s m args below meth c H locs (h.1.length - n0) (1000 * (h.1.length - n0)) (h1.1.length - h.1.length) (1000 * (h1.1.length - h.1.length)) (F0 m pc ls st0) (rest.map (sm_tr G)) (sm_Qc G r h1 av) (fun q => sm_z0 G ≤ q) → W p l e R s m args below meth c H locs (h.1.length - n0) (1000 * (h.1.length - n0)) Q (F0 m pc ls st0) := by
    intro av st0 hrun
    refine sm_cont hrun g3 fun H1 locs1 w1 w2 => ?_
    have hk2 := kk ls H1 locs1 g1 w1 w2
    rw [show (h.1.length - n0) + (h1.1.length - h.1.length) = h1.1.length - n0 by omega, show 1000 * (h.1.length - n0) + 1000 * (h1.1.length - h.1.length) = 1000 * (h1.1.length - n0) by omega]
    rw [List.map_append] at hk2
    rw [show (r.map (sm_tr G)).toList = r.toList.map (sm_tr G) by cases r <;> rfl]
    exact hk2
  unfold sm_call at hcall
  rw [if_neg (by omega)] at hcall
  cases i with
  | invokestatic ix =>
    obtain rfl : len = 3 := by simpa [sm_ilen] using hln
    dsimp only at hcall
    split at hcall
    · rename_i hc
      cases hcall
      have hstk := sm_st_split hc.1
      have hlen : ((st.take b).reverse.map (sm_tr G)).length = b := by rw [List.length_map, List.length_reverse, List.length_take]; omega
      have hstack : st.map (sm_tr G) = ((st.take b).reverse.map (sm_tr G)).reverse ++ (st.drop b).map (sm_tr G) := by
        rw [← List.map_reverse, ← List.map_append, ← hstk]
      simp only [sm_chk] at hk
      rw [if_neg (by omega), if_neg (by omega), if_neg (by omega), if_neg (by omega), Bool.or_eq_true] at hk
      have hcat : 2 * (F0 m pc ls (st.map (sm_tr G))).monitorRoom + (((st.drop b).map (sm_tr G)).map fun v => v.category).sum ≤ 8 := by
        rw [sm_tr_sum]; exact lv_room hc.2
      rcases hk with hk | hk
      · obtain ⟨w1, w2, w3, w4⟩ := sm_c_MS _ (List.contains_iff_mem.mp hk)
        have w4 : a < 251 := w4
        exact hcont _ _ (va_runS (rest := (st.drop b).map (sm_tr G)) (As := (st.take b).reverse.map (sm_tr G)) (index := ix) S (sm_met IH w4 hal hRO h26) (sm_bS X w1 w2 w3 w4 (hroom w4)) ⟨sm_blind _ _ _, sm_pre hK g2 _⟩ rfl hlen hls hstack hcat hd hfit)
      · obtain ⟨w1, w2, w3, w4⟩ := sm_c_MSN _ (List.contains_iff_mem.mp hk)
        have w4 : a < 251 := w4
        exact hcont _ _ (va_runSN (rest := (st.drop b).map (sm_tr G)) (As := (st.take b).reverse.map (sm_tr G)) (index := ix) S (sm_met IH w4 hal hRO h26) ⟨sm_bN X hK (List.mem_append_right _ (List.contains_iff_mem.mp hk)) rfl w3 w4 (hroom w4), X.use w2, trivial⟩ ⟨sm_blind _ _ _, sm_pre hK g2 _⟩ rfl hlen hls hstack hcat hd hfit)
    · cases hcall
  | invokespecial ix =>
    obtain rfl : len = 3 := by simpa [sm_ilen] using hln
    dsimp only at hcall
    split at hcall
    · rename_i hc
      split at hcall
      · rename_i zq hzq
        cases hcall
        obtain ⟨e1, e2⟩ := sm_st_split2 hzq
        have hlen : ((st.take b).reverse.map (sm_tr G)).length = b := by rw [List.length_map, List.length_reverse, List.length_take]; omega
        have hstack : st.map (sm_tr G) = ((st.take b).reverse.map (sm_tr G)).reverse ++ .ref (sm_ad G zq) :: (st.drop (b + 1)).map (sm_tr G) := by
          conv => lhs; rw [e2]
          rw [List.map_append, List.map_cons, ← List.map_reverse]; rfl
        have hav : ((st.take (b + 1)).reverse).map (sm_tr G) = .ref (sm_ad G zq) :: (st.take b).reverse.map (sm_tr G) := by rw [e1]; rfl
        simp only [sm_chk] at hk
        rw [if_neg (by omega), Bool.or_eq_true] at hk
        have hcat : 2 * (F0 m pc ls (st.map (sm_tr G))).monitorRoom + (((st.drop (b + 1)).map (sm_tr G)).map fun v => v.category).sum ≤ 8 := by
          rw [sm_tr_sum]; exact lv_room hc.2
        have hpre := sm_pre hK g2 ((st.take (b + 1)).reverse)
        rw [hav] at hpre
        rcases hk with hk | hk
        · obtain ⟨w1, w2, w3, w5, w6, w4⟩ := sm_c_MI _ (List.contains_iff_mem.mp hk)
          have w4 : a < 251 := w4
          have w5 : sm_ret a = none := w5
          have hM := sm_met IH w4 hal hRO h26
          exact hcont _ _ (va_runI (rest := (st.drop (b + 1)).map (sm_tr G)) (As := (st.take b).reverse.map (sm_tr G)) (index := ix) (maxL := sm_mxl a) (bytes := sm_by a) S hM (sm_bI X w1 w2 w3 w5 w6 w4 (hroom w4)) ⟨sm_blind _ _ _, hpre⟩ rfl hlen hls hstack hcat hd hfit)
        · obtain ⟨w1, w2, w3, w5, w6, w4⟩ := sm_c_MIN _ (List.contains_iff_mem.mp hk)
          have w4 : a < 251 := w4
          have w5 : sm_ret a = none := w5
          have hM := sm_met IH w4 hal hRO h26
          exact hcont _ _ (va_runIN (rest := (st.drop (b + 1)).map (sm_tr G)) (As := (st.take b).reverse.map (sm_tr G)) (index := ix) (maxL := sm_mxl a) (bytes := sm_by a) S hM ⟨sm_bN X hK (List.mem_append_left _ (List.contains_iff_mem.mp hk)) w5 w6 w4 (hroom w4), w3, X.use w2⟩ ⟨sm_blind _ _ _, hpre⟩ rfl hlen hls hstack hcat hd hfit)
      · cases hcall
    · cases hcall
  | invokevirtual ix =>
    obtain rfl : len = 3 := by simpa [sm_ilen] using hln
    dsimp only at hcall
    split at hcall
    · rename_i hc
      split at hcall
      · rename_i zq hzq
        split at hcall
        · rename_i hrc
          cases hcall
          obtain ⟨e1, e2⟩ := sm_st_split2 hzq
          have hlen : ((st.take b).reverse.map (sm_tr G)).length = b := by rw [List.length_map, List.length_reverse, List.length_take]; omega
          have hstack : st.map (sm_tr G) = ((st.take b).reverse.map (sm_tr G)).reverse ++ .ref (sm_ad G zq) :: (st.drop (b + 1)).map (sm_tr G) := by
            conv => lhs; rw [e2]
            rw [List.map_append, List.map_cons, ← List.map_reverse]; rfl
          have hav : ((st.take (b + 1)).reverse).map (sm_tr G) = .ref (sm_ad G zq) :: (st.take b).reverse.map (sm_tr G) := by rw [e1]; rfl
          simp only [sm_chk] at hk
          rw [if_neg (by omega)] at hk
          have hcat : 2 * (F0 m pc ls (st.map (sm_tr G))).monitorRoom + (((st.drop (b + 1)).map (sm_tr G)).map fun v => v.category).sum ≤ 8 := by
            rw [sm_tr_sum]; exact lv_room hc.2
          have hpre := sm_pre hK g2 ((st.take (b + 1)).reverse)
          rw [hav] at hpre
          obtain ⟨w1, w2, w3, w5, w4⟩ := sm_c_MV _ (List.contains_iff_mem.mp hk)
          have w4 : a < 251 := w4
          exact hcont _ _ (va_runV (rest := (st.drop (b + 1)).map (sm_tr G)) (As := (st.take b).reverse.map (sm_tr G)) (index := ix) (C := (sm_y a).cls) S (sm_met IH w4 hal hRO h26) (sm_bV X w1 w2 w3 w5 w4 (hroom w4)) ⟨sm_blind _ _ _, sm_recv hK g2 hrc w4, hpre⟩ rfl hlen hls hstack hcat hd hfit)
        · cases hcall
      · cases hcall
    · cases hcall
  | _ => cases hic
end
/-- THE SIMULATION: what the small machine does, the machine does -/
theorem sm_sim (l : Launch) (G : sm_G) : ∀ (n d mi pc : Nat) (L st : List Value) (h : sm_H) (r : Option Value) (h' : sm_H), sm_ev n d mi pc L st h = some (r, h') → sm_Sim l G d mi pc L st h r h'
  | 0, _, _, _, _, _, _, _, _, hev => by cases hev
  | n + 1, d, mi, pc, L, st, h, r, h', hev => by
    intro p e R s m args below meth c Q n0 X hK hRO h26 hn hR hS hfin
    obtain ⟨i, len, a, b, z, hcd, hor⟩ := sm_ev_inv hev
    rcases hor with ⟨hrt, rfl⟩ | ⟨-, hic, ha, k, as, rest, d', r1, h1, hcall, rfl, hal, e1, e2⟩ | ⟨-, -, pc', L', st', h1, e1, e2⟩
    · exact hfin pc L st i len a b z hcd hrt
    · have p1 := sm_ev_pr n _ _ _ _ _ _ _ _ e1
      have p2 := sm_ev_pr n _ _ _ _ _ _ _ _ e2
      have l1 := p1.1
      have l2 := p2.1
      exact sm_callW X hK rfl hcd hic ha hcall hal (sm_sim l G n d' k 0 _ _ _ _ _ e1) hRO h26 hn l1 (by omega) (by omega)
        (sm_sim l G n (d' + 1) mi (pc + 3) L (r1.toList ++ rest) h1 r h' e2 p e R s m args below meth c Q n0 X hK (p1.ro h26 hRO) (by omega) (by omega) hR hS hfin)
    · have p1 := sm_step_pr e1
      have p2 := sm_ev_pr n _ _ _ _ _ _ _ _ e2
      have l1 := p1.1
      have l2 := p2.1
      obtain ⟨hd, hln, hk, hf⟩ := sm_cd_ok hcd
      exact sm_ssim X hK hRO rfl hd hln hk hf e1 hn (by omega) (by omega)
        (sm_sim l G n d mi pc' L' st' h1 r h' e2 p e R s m args below meth c Q n0 X hK (p1.ro h26 hRO) (by omega) (by omega) hR hS hfin)
