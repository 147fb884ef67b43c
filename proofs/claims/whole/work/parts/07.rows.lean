/-! the simple instructions: a step of the small machine is a step of the machine -/
def sm_tb : List Cond := lw_tbl.filter goodWord
def sm_ilen (i : Instr) (len : Nat) : Bool := match i with
  | .bipush _ | .ldc _ | .iload _ | .lload _ | .aload _ | .istore _ | .astore _ | .newarray _ => len == 2
  | .sipush _ | .ldc_w _ | .ldc2_w _ | .iinc _ _ | .goto _ | .ifCond _ _ | .if_icmp _ _ | .getstatic _ | .getfield _ | .putfield _ | .new _ | .anewarray _ | .invokespecial _ | .invokestatic _ | .invokevirtual _ => len == 3
  | .tableswitch _ _ _ _ | .lookupswitch _ _ => true
  | _ => len == 1
set_option maxRecDepth 100000 in
theorem sm_lenM : sm_M.all (fun q => q.2.2.2.2.2.all fun e => sm_ilen e.2.1 e.2.2.1) = true := by decide +kernel
def sm_Cx (p : Program) (R : Room) (s : State) (m : MethodId) (args : Array Value) (meth : Method) (c : Code) (mi d : Nat) : Prop := p.tables.exec = Jvm.exec ∧ c.code = sm_by mi ∧ meth.sig.returnType = sm_ret mi ∧ c.maxLocals = sm_mxl mi ∧ s.vm.findClass (sm_c (sm_cls mi)) = some m.cls ∧ (∀ w ∈ sm_tb, w.before args s = true) ∧ meth.locks = false ∧ d + 1 ≤ R.frames ∧ 60 * (d + 1) ≤ R.locals ∧ ((sm_y mi).name = "<init>" → meth.name = "<init>")
theorem sm_Cx.use {p : Program} {R : Room} {s : State} {m : MethodId} {args : Array Value} {meth : Method} {c : Code} {mi d : Nat} (X : sm_Cx p R s m args meth c mi d) {w : Cond} (h : sm_w w) : w.before args s = true := X.2.2.2.2.2.1 w (List.mem_filter.mpr ⟨h.1, h.2⟩)
/-- from here the machine comes to Q, whatever cells and locals hold these data -/
def sm_Go (p : Program) (l : Launch) (e : Env) (R : Room) (s : State) (m : MethodId) (args : Array Value) (below : List Frame) (meth : Method) (c : Code) (Q : State → Prop) (G : sm_G) (n0 nL pc : Nat) (L st : List Value) (h : sm_H) : Prop :=
  ∀ (ls : Array Slot) (H : Heap) (locs : List Loc), sm_L G nL L ls → sm_Wd G h H → (∀ q ∈ locs, sm_z0 G ≤ q.base) → W p l e R s m args below meth c H locs (h.1.length - n0) (1000 * (h.1.length - n0)) Q (F0 m pc ls (st.map (sm_tr G)))
section
variable {p : Program} {l : Launch} {e : Env} {R : Room} {s : State} {m : MethodId} {args : Array Value} {below : List Frame} {meth : Method} {c : Code} {Q : State → Prop} {G : sm_G} {n0 nL mi d pc : Nat} {L st : List Value} {h : sm_H}
theorem sm_g_iconst (X : sm_Cx p R s m args meth c mi d) {n : Int} (hd : decode (sm_by mi) pc = .ok (.iconst n, 1)) (k : sm_Go p l e R s m args below meth c Q G n0 nL (pc + 1) L (.int (Int32.ofInt n) :: st) h) : sm_Go p l e R s m args below meth c Q G n0 nL pc L (st) h :=
  fun ls H locs h1 h2 h3 => lv_iconst X.1 X.2.1 hd rfl (k ls H locs h1 h2 h3)
theorem sm_g_bipush (X : sm_Cx p R s m args meth c mi d) {n : Int} (hd : decode (sm_by mi) pc = .ok (.bipush n, 2)) (k : sm_Go p l e R s m args below meth c Q G n0 nL (pc + 2) L (.int (Int8.ofInt n).toInt32 :: st) h) : sm_Go p l e R s m args below meth c Q G n0 nL pc L (st) h :=
  fun ls H locs h1 h2 h3 => lv_bipush X.1 X.2.1 hd rfl (k ls H locs h1 h2 h3)
theorem sm_g_sipush (X : sm_Cx p R s m args meth c mi d) {n : Int} (hd : decode (sm_by mi) pc = .ok (.sipush n, 3)) (k : sm_Go p l e R s m args below meth c Q G n0 nL (pc + 3) L (.int (Int16.ofInt n).toInt32 :: st) h) : sm_Go p l e R s m args below meth c Q G n0 nL pc L (st) h :=
  fun ls H locs h1 h2 h3 => lv_sipush X.1 X.2.1 hd rfl (k ls H locs h1 h2 h3)
theorem sm_g_lconst (X : sm_Cx p R s m args meth c mi d) {n : Fin 2} (hd : decode (sm_by mi) pc = .ok (.lconst n, 1)) (k : sm_Go p l e R s m args below meth c Q G n0 nL (pc + 1) L (.long (Int64.ofNat (n : Nat)) :: st) h) : sm_Go p l e R s m args below meth c Q G n0 nL pc L (st) h :=
  fun ls H locs h1 h2 h3 => lv_lconst X.1 X.2.1 hd rfl (k ls H locs h1 h2 h3)
theorem sm_g_iload_n (X : sm_Cx p R s m args meth c mi d) {j : Fin 4} {x : Int32} (hd : decode (sm_by mi) pc = .ok (.iload_n j, 1)) (hx : sm_ld L j = .int x) (k : sm_Go p l e R s m args below meth c Q G n0 nL (pc + 1) L (.int x :: st) h) : sm_Go p l e R s m args below meth c Q G n0 nL pc L (st) h :=
  fun ls H locs h1 h2 h3 => lv_iload_n X.1 X.2.1 hd rfl (h1.get hx (by intro q; cases q)) (k ls H locs h1 h2 h3)
theorem sm_g_iload (X : sm_Cx p R s m args meth c mi d) {j : Nat} {x : Int32} (hd : decode (sm_by mi) pc = .ok (.iload j, 2)) (hx : sm_ld L j = .int x) (k : sm_Go p l e R s m args below meth c Q G n0 nL (pc + 2) L (.int x :: st) h) : sm_Go p l e R s m args below meth c Q G n0 nL pc L (st) h :=
  fun ls H locs h1 h2 h3 => lv_iload X.1 X.2.1 hd (h1.get hx (by intro q; cases q)) (k ls H locs h1 h2 h3)
theorem sm_g_lload_n (X : sm_Cx p R s m args meth c mi d) {j : Fin 4} {x : Int64} (hd : decode (sm_by mi) pc = .ok (.lload_n j, 1)) (hx : sm_ld L j = .long x) (k : sm_Go p l e R s m args below meth c Q G n0 nL (pc + 1) L (.long x :: st) h) : sm_Go p l e R s m args below meth c Q G n0 nL pc L (st) h :=
  fun ls H locs h1 h2 h3 => lv_lload_n X.1 X.2.1 hd rfl (h1.get hx (by intro q; cases q)) (k ls H locs h1 h2 h3)
theorem sm_g_lload (X : sm_Cx p R s m args meth c mi d) {j : Nat} {x : Int64} (hd : decode (sm_by mi) pc = .ok (.lload j, 2)) (hx : sm_ld L j = .long x) (k : sm_Go p l e R s m args below meth c Q G n0 nL (pc + 2) L (.long x :: st) h) : sm_Go p l e R s m args below meth c Q G n0 nL pc L (st) h :=
  fun ls H locs h1 h2 h3 => lv_lload X.1 X.2.1 hd (h1.get hx (by intro q; cases q)) (k ls H locs h1 h2 h3)
theorem sm_g_aload_n (X : sm_Cx p R s m args meth c mi d) {j : Fin 4} {x : Nat} (hd : decode (sm_by mi) pc = .ok (.aload_n j, 1)) (hx : sm_ld L j = .ref x) (k : sm_Go p l e R s m args below meth c Q G n0 nL (pc + 1) L (.ref x :: st) h) : sm_Go p l e R s m args below meth c Q G n0 nL pc L (st) h :=
  fun ls H locs h1 h2 h3 => lv_aload_n (x := sm_ad G x) X.1 X.2.1 hd rfl (h1.get hx (by intro q; cases q)) (k ls H locs h1 h2 h3)
theorem sm_g_aload (X : sm_Cx p R s m args meth c mi d) {j : Nat} {x : Nat} (hd : decode (sm_by mi) pc = .ok (.aload j, 2)) (hx : sm_ld L j = .ref x) (k : sm_Go p l e R s m args below meth c Q G n0 nL (pc + 2) L (.ref x :: st) h) : sm_Go p l e R s m args below meth c Q G n0 nL pc L (st) h :=
  fun ls H locs h1 h2 h3 => lv_aload (x := sm_ad G x) X.1 X.2.1 hd (h1.get hx (by intro q; cases q)) (k ls H locs h1 h2 h3)
theorem sm_g_istore_n (X : sm_Cx p R s m args meth c mi d) {j : Fin 4} {x : Int32} (hd : decode (sm_by mi) pc = .ok (.istore_n j, 1)) (hj : (j : Nat) < L.length) (hc : sm_cat L j = true) (k : sm_Go p l e R s m args below meth c Q G n0 nL (pc + 1) (L.set j (.int x)) (st) h) : sm_Go p l e R s m args below meth c Q G n0 nL pc L (.int x :: st) h :=
  fun ls H locs h1 h2 h3 => lv_istore_n (lv := sm_lv G L) X.1 X.2.1 hd rfl h1.lv (by rw [← h1.2.1]; exact hj) rfl (fun ls' hl => k ls' H locs (h1.of (v := .int x) hj hc hl) h2 h3)
theorem sm_g_istore (X : sm_Cx p R s m args meth c mi d) {j : Nat} {x : Int32} (hd : decode (sm_by mi) pc = .ok (.istore j, 2)) (hj : (j : Nat) < L.length) (hc : sm_cat L j = true) (k : sm_Go p l e R s m args below meth c Q G n0 nL (pc + 2) (L.set j (.int x)) (st) h) : sm_Go p l e R s m args below meth c Q G n0 nL pc L (.int x :: st) h :=
  fun ls H locs h1 h2 h3 => lv_istore (lv := sm_lv G L) X.1 X.2.1 hd h1.lv (by rw [← h1.2.1]; exact hj) rfl (fun ls' hl => k ls' H locs (h1.of (v := .int x) hj hc hl) h2 h3)
theorem sm_g_astore_n (X : sm_Cx p R s m args meth c mi d) {j : Fin 4} {x : Nat} (hd : decode (sm_by mi) pc = .ok (.astore_n j, 1)) (hj : (j : Nat) < L.length) (hc : sm_cat L j = true) (k : sm_Go p l e R s m args below meth c Q G n0 nL (pc + 1) (L.set j (.ref x)) (st) h) : sm_Go p l e R s m args below meth c Q G n0 nL pc L (.ref x :: st) h :=
  fun ls H locs h1 h2 h3 => lv_astore_n (lv := sm_lv G L) X.1 X.2.1 hd rfl h1.lv (by rw [← h1.2.1]; exact hj) rfl (fun ls' hl => k ls' H locs (h1.of (v := .ref x) hj hc hl) h2 h3)
theorem sm_g_astore (X : sm_Cx p R s m args meth c mi d) {j : Nat} {x : Nat} (hd : decode (sm_by mi) pc = .ok (.astore j, 2)) (hj : (j : Nat) < L.length) (hc : sm_cat L j = true) (k : sm_Go p l e R s m args below meth c Q G n0 nL (pc + 2) (L.set j (.ref x)) (st) h) : sm_Go p l e R s m args below meth c Q G n0 nL pc L (.ref x :: st) h :=
  fun ls H locs h1 h2 h3 => lv_astore (lv := sm_lv G L) X.1 X.2.1 hd h1.lv (by rw [← h1.2.1]; exact hj) rfl (fun ls' hl => k ls' H locs (h1.of (v := .ref x) hj hc hl) h2 h3)
theorem sm_lv_at {x : Int32} {j : Nat} (hx : sm_ld L j = .int x) : ∃ k : Nat, (sm_lv G L)[k]? = some (j, .int x) := by
  refine List.getElem?_of_mem (sm_lv_mem.mpr ⟨.int x, ?_, (by intro q; cases q), rfl⟩)
  unfold sm_ld at hx
  rw [List.getD_eq_getElem?_getD] at hx
  cases hq : L[j]? with
  | none => rw [hq] at hx; cases hx
  | some w => rw [hq] at hx; exact congrArg some hx
theorem sm_g_iinc (X : sm_Cx p R s m args meth c mi d) {j : Nat} {n : Int} {x : Int32} (hd : decode (sm_by mi) pc = .ok (.iinc j n, 3)) (hx : sm_ld L j = .int x) (hj : j < L.length) (hc : sm_cat L j = true) (k : sm_Go p l e R s m args below meth c Q G n0 nL (pc + 3) (L.set j (.int (x + Int32.ofInt n))) st h) : sm_Go p l e R s m args below meth c Q G n0 nL pc L st h := by
  intro ls H locs h1 h2 h3
  obtain ⟨kk, hk⟩ := sm_lv_at (G := G) hx
  exact lv_iinc (lv := sm_lv G L) X.1 X.2.1 hd h1.lv hk rfl (by rw [← h1.2.1]; exact hj) rfl (fun ls' hl => k ls' H locs (h1.of (v := .int (x + Int32.ofInt n)) hj hc hl) h2 h3)
theorem sm_g_iadd (X : sm_Cx p R s m args meth c mi d) {x y : Int32} (hd : decode (sm_by mi) pc = .ok (.iadd, 1)) (k : sm_Go p l e R s m args below meth c Q G n0 nL (pc + 1) L (.int (x + y) :: st) h) : sm_Go p l e R s m args below meth c Q G n0 nL pc L (.int y :: .int x :: st) h :=
  fun ls H locs h1 h2 h3 => lv_iadd X.1 X.2.1 hd (k ls H locs h1 h2 h3)
theorem sm_g_isub (X : sm_Cx p R s m args meth c mi d) {x y : Int32} (hd : decode (sm_by mi) pc = .ok (.isub, 1)) (k : sm_Go p l e R s m args below meth c Q G n0 nL (pc + 1) L (.int (x - y) :: st) h) : sm_Go p l e R s m args below meth c Q G n0 nL pc L (.int y :: .int x :: st) h :=
  fun ls H locs h1 h2 h3 => lv_isub X.1 X.2.1 hd (k ls H locs h1 h2 h3)
theorem sm_g_imul (X : sm_Cx p R s m args meth c mi d) {x y : Int32} (hd : decode (sm_by mi) pc = .ok (.imul, 1)) (k : sm_Go p l e R s m args below meth c Q G n0 nL (pc + 1) L (.int (x * y) :: st) h) : sm_Go p l e R s m args below meth c Q G n0 nL pc L (.int y :: .int x :: st) h :=
  fun ls H locs h1 h2 h3 => lv_imul X.1 X.2.1 hd (k ls H locs h1 h2 h3)
theorem sm_g_iand (X : sm_Cx p R s m args meth c mi d) {x y : Int32} (hd : decode (sm_by mi) pc = .ok (.iand, 1)) (k : sm_Go p l e R s m args below meth c Q G n0 nL (pc + 1) L (.int (x &&& y) :: st) h) : sm_Go p l e R s m args below meth c Q G n0 nL pc L (.int y :: .int x :: st) h :=
  fun ls H locs h1 h2 h3 => lv_iand X.1 X.2.1 hd (k ls H locs h1 h2 h3)
theorem sm_g_ior (X : sm_Cx p R s m args meth c mi d) {x y : Int32} (hd : decode (sm_by mi) pc = .ok (.ior, 1)) (k : sm_Go p l e R s m args below meth c Q G n0 nL (pc + 1) L (.int (x ||| y) :: st) h) : sm_Go p l e R s m args below meth c Q G n0 nL pc L (.int y :: .int x :: st) h :=
  fun ls H locs h1 h2 h3 => lv_ior X.1 X.2.1 hd (k ls H locs h1 h2 h3)
theorem sm_g_ixor (X : sm_Cx p R s m args meth c mi d) {x y : Int32} (hd : decode (sm_by mi) pc = .ok (.ixor, 1)) (k : sm_Go p l e R s m args below meth c Q G n0 nL (pc + 1) L (.int (x ^^^ y) :: st) h) : sm_Go p l e R s m args below meth c Q G n0 nL pc L (.int y :: .int x :: st) h :=
  fun ls H locs h1 h2 h3 => lv_ixor X.1 X.2.1 hd (k ls H locs h1 h2 h3)
theorem sm_g_ishl (X : sm_Cx p R s m args meth c mi d) {x y : Int32} (hd : decode (sm_by mi) pc = .ok (.ishl, 1)) (k : sm_Go p l e R s m args below meth c Q G n0 nL (pc + 1) L (.int (x <<< (y &&& 31)) :: st) h) : sm_Go p l e R s m args below meth c Q G n0 nL pc L (.int y :: .int x :: st) h :=
  fun ls H locs h1 h2 h3 => lv_ishl X.1 X.2.1 hd (k ls H locs h1 h2 h3)
theorem sm_g_ishr (X : sm_Cx p R s m args meth c mi d) {x y : Int32} (hd : decode (sm_by mi) pc = .ok (.ishr, 1)) (k : sm_Go p l e R s m args below meth c Q G n0 nL (pc + 1) L (.int (x >>> (y &&& 31)) :: st) h) : sm_Go p l e R s m args below meth c Q G n0 nL pc L (.int y :: .int x :: st) h :=
  fun ls H locs h1 h2 h3 => lv_ishr X.1 X.2.1 hd (k ls H locs h1 h2 h3)
theorem sm_g_iushr (X : sm_Cx p R s m args meth c mi d) {x y : Int32} (hd : decode (sm_by mi) pc = .ok (.iushr, 1)) (k : sm_Go p l e R s m args below meth c Q G n0 nL (pc + 1) L (.int (x.toUInt32 >>> (y.toUInt32 &&& Int32.toUInt32 31)).toInt32 :: st) h) : sm_Go p l e R s m args below meth c Q G n0 nL pc L (.int y :: .int x :: st) h :=
  fun ls H locs h1 h2 h3 => lv_iushr X.1 X.2.1 hd rfl (k ls H locs h1 h2 h3)
theorem sm_g_idiv (X : sm_Cx p R s m args meth c mi d) {x y : Int32} (hd : decode (sm_by mi) pc = .ok (.idiv, 1)) (hy : ¬ y = 0) (k : sm_Go p l e R s m args below meth c Q G n0 nL (pc + 1) L (.int (x / y) :: st) h) : sm_Go p l e R s m args below meth c Q G n0 nL pc L (.int y :: .int x :: st) h :=
  fun ls H locs h1 h2 h3 => lv_idiv X.1 X.2.1 hd hy (k ls H locs h1 h2 h3)
theorem sm_g_irem (X : sm_Cx p R s m args meth c mi d) {x y : Int32} (hd : decode (sm_by mi) pc = .ok (.irem, 1)) (hy : ¬ y = 0) (k : sm_Go p l e R s m args below meth c Q G n0 nL (pc + 1) L (.int (x - x / y * y) :: st) h) : sm_Go p l e R s m args below meth c Q G n0 nL pc L (.int y :: .int x :: st) h :=
  fun ls H locs h1 h2 h3 => lv_irem X.1 X.2.1 hd hy (k ls H locs h1 h2 h3)
theorem sm_g_ineg (X : sm_Cx p R s m args meth c mi d) {x : Int32} (hd : decode (sm_by mi) pc = .ok (.ineg, 1)) (k : sm_Go p l e R s m args below meth c Q G n0 nL (pc + 1) L (.int (-x) :: st) h) : sm_Go p l e R s m args below meth c Q G n0 nL pc L (.int x :: st) h :=
  fun ls H locs h1 h2 h3 => lv_ineg X.1 X.2.1 hd (k ls H locs h1 h2 h3)
theorem sm_g_land (X : sm_Cx p R s m args meth c mi d) {x y : Int64} (hd : decode (sm_by mi) pc = .ok (.land, 1)) (k : sm_Go p l e R s m args below meth c Q G n0 nL (pc + 1) L (.long (x &&& y) :: st) h) : sm_Go p l e R s m args below meth c Q G n0 nL pc L (.long y :: .long x :: st) h :=
  fun ls H locs h1 h2 h3 => lv_land X.1 X.2.1 hd (k ls H locs h1 h2 h3)
theorem sm_g_lor (X : sm_Cx p R s m args meth c mi d) {x y : Int64} (hd : decode (sm_by mi) pc = .ok (.lor, 1)) (k : sm_Go p l e R s m args below meth c Q G n0 nL (pc + 1) L (.long (x ||| y) :: st) h) : sm_Go p l e R s m args below meth c Q G n0 nL pc L (.long y :: .long x :: st) h :=
  fun ls H locs h1 h2 h3 => lv_lor X.1 X.2.1 hd (k ls H locs h1 h2 h3)
theorem sm_g_lshl (X : sm_Cx p R s m args meth c mi d) {x : Int64} {y : Int32} (hd : decode (sm_by mi) pc = .ok (.lshl, 1)) (k : sm_Go p l e R s m args below meth c Q G n0 nL (pc + 1) L (.long (x <<< (y.toInt64 &&& 63)) :: st) h) : sm_Go p l e R s m args below meth c Q G n0 nL pc L (.int y :: .long x :: st) h :=
  fun ls H locs h1 h2 h3 => lv_lshl X.1 X.2.1 hd rfl (k ls H locs h1 h2 h3)
theorem sm_g_lcmp (X : sm_Cx p R s m args meth c mi d) {x y : Int64} (hd : decode (sm_by mi) pc = .ok (.lcmp, 1)) (k : sm_Go p l e R s m args below meth c Q G n0 nL (pc + 1) L (.int (lg_cmp x y) :: st) h) : sm_Go p l e R s m args below meth c Q G n0 nL pc L (.long y :: .long x :: st) h :=
  fun ls H locs h1 h2 h3 => W.lcmp X.1 X.2.1 hd (k ls H locs h1 h2 h3)
theorem sm_g_i2l (X : sm_Cx p R s m args meth c mi d) {x : Int32} (hd : decode (sm_by mi) pc = .ok (.i2l, 1)) (k : sm_Go p l e R s m args below meth c Q G n0 nL (pc + 1) L (.long x.toInt64 :: st) h) : sm_Go p l e R s m args below meth c Q G n0 nL pc L (.int x :: st) h :=
  fun ls H locs h1 h2 h3 => lv_i2l X.1 X.2.1 hd rfl (k ls H locs h1 h2 h3)
theorem sm_g_l2i (X : sm_Cx p R s m args meth c mi d) {x : Int64} (hd : decode (sm_by mi) pc = .ok (.l2i, 1)) (k : sm_Go p l e R s m args below meth c Q G n0 nL (pc + 1) L (.int x.toInt32 :: st) h) : sm_Go p l e R s m args below meth c Q G n0 nL pc L (.long x :: st) h :=
  fun ls H locs h1 h2 h3 => lv_l2i X.1 X.2.1 hd rfl (k ls H locs h1 h2 h3)
theorem sm_g_i2b (X : sm_Cx p R s m args meth c mi d) {x : Int32} (hd : decode (sm_by mi) pc = .ok (.i2b, 1)) (k : sm_Go p l e R s m args below meth c Q G n0 nL (pc + 1) L (.int x.toInt8.toInt32 :: st) h) : sm_Go p l e R s m args below meth c Q G n0 nL pc L (.int x :: st) h :=
  fun ls H locs h1 h2 h3 => lv_i2b X.1 X.2.1 hd rfl (k ls H locs h1 h2 h3)
theorem sm_g_i2s (X : sm_Cx p R s m args meth c mi d) {x : Int32} (hd : decode (sm_by mi) pc = .ok (.i2s, 1)) (k : sm_Go p l e R s m args below meth c Q G n0 nL (pc + 1) L (.int x.toInt16.toInt32 :: st) h) : sm_Go p l e R s m args below meth c Q G n0 nL pc L (.int x :: st) h :=
  fun ls H locs h1 h2 h3 => lv_i2s X.1 X.2.1 hd rfl (k ls H locs h1 h2 h3)
theorem sm_g_i2c (X : sm_Cx p R s m args meth c mi d) {x : Int32} (hd : decode (sm_by mi) pc = .ok (.i2c, 1)) (k : sm_Go p l e R s m args below meth c Q G n0 nL (pc + 1) L (.int (x.toUInt32 % 65536).toInt32 :: st) h) : sm_Go p l e R s m args below meth c Q G n0 nL pc L (.int x :: st) h :=
  fun ls H locs h1 h2 h3 => lv_i2c X.1 X.2.1 hd rfl (k ls H locs h1 h2 h3)
theorem sm_g_dup (X : sm_Cx p R s m args meth c mi d) {v : Value} (hd : decode (sm_by mi) pc = .ok (.dup, 1)) (hv : v.category = 1) (k : sm_Go p l e R s m args below meth c Q G n0 nL (pc + 1) L (v :: v :: st) h) : sm_Go p l e R s m args below meth c Q G n0 nL pc L (v :: st) h :=
  fun ls H locs h1 h2 h3 => lv_dup X.1 X.2.1 hd (by rw [sm_tr_cat]; exact hv) (k ls H locs h1 h2 h3)
theorem sm_g_pop (X : sm_Cx p R s m args meth c mi d) {v : Value} (hd : decode (sm_by mi) pc = .ok (.pop, 1)) (hv : v.category = 1) (k : sm_Go p l e R s m args below meth c Q G n0 nL (pc + 1) L (st) h) : sm_Go p l e R s m args below meth c Q G n0 nL pc L (v :: st) h :=
  fun ls H locs h1 h2 h3 => lv_pop X.1 X.2.1 hd (by rw [sm_tr_cat]; exact hv) (k ls H locs h1 h2 h3)
theorem sm_g_dup2 (X : sm_Cx p R s m args meth c mi d) {v w : Value} (hd : decode (sm_by mi) pc = .ok (.dup2, 1)) (hv : v.category = 1) (hw : w.category = 1) (k : sm_Go p l e R s m args below meth c Q G n0 nL (pc + 1) L (v :: w :: v :: w :: st) h) : sm_Go p l e R s m args below meth c Q G n0 nL pc L (v :: w :: st) h :=
  fun ls H locs h1 h2 h3 => lv_dup2_11 X.1 X.2.1 hd (by rw [sm_tr_cat]; exact hv) (by rw [sm_tr_cat]; exact hw) (k ls H locs h1 h2 h3)
theorem sm_tgt_eq {pc : Nat} {off : Int} (h : 0 ≤ (pc : Int) + off) : (pc : Int) + off = (sm_tgt pc off : Nat) := by
  unfold sm_tgt; omega
theorem sm_g_goto (X : sm_Cx p R s m args meth c mi d) {off : Int} (hd : decode (sm_by mi) pc = .ok (.goto off, 3)) (ho : 0 ≤ (pc : Int) + off) (k : sm_Go p l e R s m args below meth c Q G n0 nL (sm_tgt pc off) L st h) : sm_Go p l e R s m args below meth c Q G n0 nL pc L st h :=
  fun ls H locs h1 h2 h3 => lv_goto X.1 X.2.1 hd (sm_tgt_eq ho) (k ls H locs h1 h2 h3)
theorem sm_g_if (X : sm_Cx p R s m args meth c mi d) {x : Int32} {cd : ClassFile.Cond} {off : Int} (hd : decode (sm_by mi) pc = .ok (.ifCond cd off, 3)) (ho : 0 ≤ (pc : Int) + off) (k1 : sm_cnd cd x 0 = true → sm_Go p l e R s m args below meth c Q G n0 nL (sm_tgt pc off) L st h) (k2 : ¬ sm_cnd cd x 0 = true → sm_Go p l e R s m args below meth c Q G n0 nL (pc + 3) L st h) : sm_Go p l e R s m args below meth c Q G n0 nL pc L (.int x :: st) h := by
  intro ls H locs h1 h2 h3
  cases cd with
  | eq => exact lv_if_eq X.1 X.2.1 hd (sm_tgt_eq ho) (fun hq => k1 (by simpa [sm_cnd] using hq) ls H locs h1 h2 h3) (fun hq => k2 (by simpa [sm_cnd] using hq) ls H locs h1 h2 h3)
  | ne => exact lv_if_ne X.1 X.2.1 hd (sm_tgt_eq ho) (fun hq => k1 (by simpa [sm_cnd] using hq) ls H locs h1 h2 h3) (fun hq => k2 (by simpa [sm_cnd] using hq) ls H locs h1 h2 h3)
  | lt => exact lv_if_lt X.1 X.2.1 hd (sm_tgt_eq ho) (fun hq => k1 (by simpa [sm_cnd] using hq) ls H locs h1 h2 h3) (fun hq => k2 (by simpa [sm_cnd] using hq) ls H locs h1 h2 h3)
  | ge => exact lv_if_ge X.1 X.2.1 hd (sm_tgt_eq ho) (fun hq => k1 (by simpa [sm_cnd] using hq) ls H locs h1 h2 h3) (fun hq => k2 (by simpa [sm_cnd] using hq) ls H locs h1 h2 h3)
  | gt => exact lv_if_gt X.1 X.2.1 hd (sm_tgt_eq ho) (fun hq => k1 (by simpa [sm_cnd] using hq) ls H locs h1 h2 h3) (fun hq => k2 (by simpa [sm_cnd] using hq) ls H locs h1 h2 h3)
  | le => exact lv_if_le X.1 X.2.1 hd (sm_tgt_eq ho) (fun hq => k1 (by simpa [sm_cnd] using hq) ls H locs h1 h2 h3) (fun hq => k2 (by simpa [sm_cnd] using hq) ls H locs h1 h2 h3)
theorem sm_g_icmp (X : sm_Cx p R s m args meth c mi d) {x y : Int32} {cd : ClassFile.Cond} {off : Int} (hd : decode (sm_by mi) pc = .ok (.if_icmp cd off, 3)) (ho : 0 ≤ (pc : Int) + off) (k1 : sm_cnd cd x y = true → sm_Go p l e R s m args below meth c Q G n0 nL (sm_tgt pc off) L st h) (k2 : ¬ sm_cnd cd x y = true → sm_Go p l e R s m args below meth c Q G n0 nL (pc + 3) L st h) : sm_Go p l e R s m args below meth c Q G n0 nL pc L (.int y :: .int x :: st) h := by
  intro ls H locs h1 h2 h3
  cases cd with
  | eq => exact lv_icmp_eq X.1 X.2.1 hd (sm_tgt_eq ho) (fun hq => k1 (by simpa [sm_cnd] using hq) ls H locs h1 h2 h3) (fun hq => k2 (by simpa [sm_cnd] using hq) ls H locs h1 h2 h3)
  | ne => exact lv_icmp_ne X.1 X.2.1 hd (sm_tgt_eq ho) (fun hq => k1 (by simpa [sm_cnd] using hq) ls H locs h1 h2 h3) (fun hq => k2 (by simpa [sm_cnd] using hq) ls H locs h1 h2 h3)
  | lt => exact lv_icmp_lt X.1 X.2.1 hd (sm_tgt_eq ho) (fun hq => k1 (by simpa [sm_cnd] using hq) ls H locs h1 h2 h3) (fun hq => k2 (by simpa [sm_cnd] using hq) ls H locs h1 h2 h3)
  | ge => exact lv_icmp_ge X.1 X.2.1 hd (sm_tgt_eq ho) (fun hq => k1 (by simpa [sm_cnd] using hq) ls H locs h1 h2 h3) (fun hq => k2 (by simpa [sm_cnd] using hq) ls H locs h1 h2 h3)
  | gt => exact lv_icmp_gt X.1 X.2.1 hd (sm_tgt_eq ho) (fun hq => k1 (by simpa [sm_cnd] using hq) ls H locs h1 h2 h3) (fun hq => k2 (by simpa [sm_cnd] using hq) ls H locs h1 h2 h3)
  | le => exact lv_icmp_le X.1 X.2.1 hd (sm_tgt_eq ho) (fun hq => k1 (by simpa [sm_cnd] using hq) ls H locs h1 h2 h3) (fun hq => k2 (by simpa [sm_cnd] using hq) ls H locs h1 h2 h3)
theorem sm_g_tabO (X : sm_Cx p R s m args meth c mi d) {x : Int32} {df lo hi : Int} {offs : Array Int} {len : Nat} (hd : decode (sm_by mi) pc = .ok (.tableswitch df lo hi offs, len)) (hx : x.toInt < lo ∨ hi < x.toInt) (ho : 0 ≤ (pc : Int) + df) (k : sm_Go p l e R s m args below meth c Q G n0 nL (sm_tgt pc df) L st h) : sm_Go p l e R s m args below meth c Q G n0 nL pc L (.int x :: st) h :=
  fun ls H locs h1 h2 h3 => lv_tableOut X.1 X.2.1 hd hx (sm_tgt_eq ho) (k ls H locs h1 h2 h3)
theorem sm_g_tabI (X : sm_Cx p R s m args meth c mi d) {x : Int32} {df lo hi off : Int} {offs : Array Int} {len : Nat} (hd : decode (sm_by mi) pc = .ok (.tableswitch df lo hi offs, len)) (hx : ¬ (x.toInt < lo ∨ hi < x.toInt)) (hf : offs[(x.toInt - lo).toNat]? = some off) (ho : 0 ≤ (pc : Int) + off) (k : sm_Go p l e R s m args below meth c Q G n0 nL (sm_tgt pc off) L st h) : sm_Go p l e R s m args below meth c Q G n0 nL pc L (.int x :: st) h :=
  fun ls H locs h1 h2 h3 => lv_tableIn X.1 X.2.1 hd (fun q => hx (Or.inl q)) (fun q => hx (Or.inr q)) hf (sm_tgt_eq ho) (k ls H locs h1 h2 h3)
theorem sm_g_look (X : sm_Cx p R s m args meth c mi d) {x : Int32} {df : Int} {ps : Array (Int × Int)} {len : Nat} (hd : decode (sm_by mi) pc = .ok (.lookupswitch df ps, len)) (hp : (ps.toList.zip (ps.toList.drop 1)).all (fun (a, next) => a.1 < next.1) = true) (ho : 0 ≤ (pc : Int) + Op.lookupswitch.offset ps.toList df x.toInt) (k : sm_Go p l e R s m args below meth c Q G n0 nL (sm_tgt pc (Op.lookupswitch.offset ps.toList df x.toInt)) L st h) : sm_Go p l e R s m args below meth c Q G n0 nL pc L (.int x :: st) h :=
  fun ls H locs h1 h2 h3 => lv_lookup X.1 X.2.1 hd hp rfl (sm_tgt_eq ho) (k ls H locs h1 h2 h3)
end
