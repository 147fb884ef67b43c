/-! THE CLAIM OUT OF ONE WALK OF THE LAW'S BODY. Your part is whole_start (and what it stands on); all else here is the same for every law, but numbers. -/
def R_law : String := "DebtSerenadeLaw"
def lw_P (b : Addr) (xs : List Int32) (args : Array Value) (s : State) : Prop := args = #[.ref b] ∧ s.IntsAt b xs ∧ xs.length ≤ 3072 ∧ (Jvm.Cond.and given_1 narrow_1).before args s = true
def lw_Q (_ : Array Value) (s : State) (o : Outcome) (t : State) : Prop := o = .returned (some (.int 1)) ∧ Framed s o t [] 600000 7302250
def lw_Z (below : List Frame) (a : Array Value) (s : State) : State → Prop := fun t => ∃ o, t.status = .running ∧ Ended t below o ∧ lw_Q a s o t
/-- the law's own end, with 1 on the stack, nothing written that was there before, its room as the claim has it -/
theorem lw_ret {p : Program} {l : Launch} {e : Env} {s : State} {m : MethodId} {below : List Frame} {meth : Method} {c : Code} {b : Nat} (hx : p.tables.exec = Jvm.exec) (hb : c.code = code) (hr : meth.sig.returnType = ret) (hlocks : meth.locks = false) {pc : Nat} {H : Heap} {ls : Array Slot} (hdg : decode code pc = .ok (.ireturn, 1)) : W p l e room_1 s m #[Value.ref b] below meth c H [] 600000 7302250 (lw_Z below #[Value.ref b] s) (F0 m pc ls [.int 1]) := by
  intro T hT X
  obtain ⟨fs, hret, hrun, hended, hW, hframe⟩ := X.leave (v := some (.int 1)) (hlocks := hlocks) (fun h => by rw [hr] at h; cases h)
  have hmeth' : T.vm.method? m = some meth := X.method'
  refine ⟨T.setFrames fs, ?_, .returned (some (.int 1)), hrun, hended, rfl, ⟨_, rfl⟩, hW, hframe⟩
  jvm_step X.here [X.here.top, hx, hb, hdg, hmeth', hr, ret, narrow_b1]
  (try refine ⟨rfl, ?_⟩); (try refine ⟨rfl, ?_⟩)
  first | (intro acts; rw [hret _ acts rfl rfl rfl]) | rw [hret _ _ rfl rfl rfl]
  exact Steps.refl _
/-- what holds at the law's entry: the machine, the code, the tables' words (any of lw_tbl by 'hts w (by decide +kernel)'), the script of L ints xs at the cell b, what the Statement gives of the start (any of its parts by flat_of_before) -/
def lw_At (p : Program) (s : State) (m : MethodId) (meth : Method) (c : Code) (b L : Nat) (xs : Nat → Int32) : Prop :=
  p.tables.exec = Jvm.exec ∧ c.code = code ∧ meth.sig.returnType = ret ∧ c.maxLocals = 4 ∧ s.vm.findClass R_law = some m.cls ∧ (∀ w ∈ lw_tbl, w.before #[Value.ref b] s = true) ∧ va_X b L xs s s.heap ∧ b < s.heap.size ∧ meth.locks = false ∧ (Jvm.Cond.and given_1 narrow_1).before #[Value.ref b] s = true
/-! the start as the Statement gives it -/
theorem sm_arr_of {ty : FieldType} {args : Array Value} {s : State} (h : (Cond.arrayClass ty).before args s = true) : ∃ cA : ClassId, ArrOfT s cA ty ∧ s.vm.findClass ("[" ++ ty.toString) = some cA := by
  obtain ⟨cA, kA, comp, h1, h2, h3⟩ := Cond.arrayClass_spec h
  exact ⟨cA, fun n z => ⟨fun k h => (by cases h), kA, h2, comp, h3⟩, h1⟩
theorem sm_arrO_of {C : String} {args : Array Value} {s : State} (h : (Cond.arrayOver (.object C)).before args s = true) : ∃ cA : ClassId, (ArrOfT s cA (.object C) ∧ va_RA s cA (.object C)) ∧ va_AO C s := by
  obtain ⟨comp, cA, kA, h1, h2, h3, h4, h5⟩ := Cond.arrayOver_spec h
  exact ⟨cA, ⟨fun n z => ⟨fun k h => (by cases h), kA, h3, comp, h4⟩, kA, comp, h3, h4, h1, h5⟩, va_AO.of h⟩
def sm_tm (i : Nat) : Term := Term.string (sm_st.getD i ("", 0, "")).1 (sm_st.getD i ("", 0, "")).2.1
abbrev sm_fl : List Cond := flatC (Jvm.Cond.and given_1 narrow_1)
def sm_tp (k : Nat) : Term := if k = 0 then .static "DebtSerenade" "TOPS" "[I" else if k = 1 then .static "DebtSerenade$Tunes" "ABOVE" "[I" else .static "DebtSerenade$Tunes" "BODIES" "[I"
def sm_tl (k : Nat) : Nat := if k < 2 then 8 else 32
set_option maxRecDepth 100000 in
theorem sm_n1 : ∀ i : Nat, i < 11 → Cond.exactly (sm_tm i) "java/lang/String" ∈ sm_fl := by decide +kernel
set_option maxRecDepth 100000 in
theorem sm_n2 : ∀ i : Nat, i < 11 → Cond.eq (.field (sm_tm i) "java/lang/String" "coder" "B") (.int 0) ∈ sm_fl := by decide +kernel
set_option maxRecDepth 100000 in
theorem sm_n3 : ∀ i : Nat, i < 11 → Cond.arrayOf (.field (sm_tm i) "java/lang/String" "value" "[B") .byte ∈ sm_fl := by decide +kernel
set_option maxRecDepth 100000 in
theorem sm_n4 : ∀ i : Nat, i < 11 → Cond.eq (.length (.field (sm_tm i) "java/lang/String" "value" "[B")) (.int (Int32.ofNat (sm_len.getD i 0))) ∈ sm_fl := by decide +kernel
set_option maxRecDepth 100000 in
theorem sm_n5 : ∀ i : Nat, i < 11 → ∀ j : Nat, j < sm_len.getD i 0 → Cond.eq (.elem (.field (sm_tm i) "java/lang/String" "value" "[B") (.int (Int32.ofNat j))) (.int ((sm_byt.getD i []).getD j 0)) ∈ sm_fl := by decide +kernel
set_option maxRecDepth 100000 in
theorem sm_n6 : ∀ i : Nat, i < 11 → ∀ j : Nat, j < 11 → i ≠ j → Cond.not (Cond.eq (sm_tm i) (sm_tm j)) ∈ sm_fl ∨ Cond.not (Cond.eq (sm_tm j) (sm_tm i)) ∈ sm_fl := by decide +kernel
set_option maxRecDepth 100000 in
theorem sm_n7 : ∀ k : Nat, k < 3 → Cond.arrayOf (sm_tp k) .int ∈ sm_fl ∧ Cond.eq (.length (sm_tp k)) (.int (Int32.ofNat (sm_tl k))) ∈ sm_fl ∧ sm_tl k < 2 ^ 31 := by decide +kernel
set_option maxRecDepth 100000 in
theorem sm_n8 : ∀ k : Nat, k < 3 → ∀ j : Nat, j < sm_tl k → Cond.eq (.elem (sm_tp k) (.int (Int32.ofNat j))) (.int ((sm_rows.getD k []).getD j 0)) ∈ sm_fl := by decide +kernel
set_option maxRecDepth 100000 in
theorem sm_n9 : Cond.eq (.static "java/lang/String" "COMPACT_STRINGS" "Z") (.int 1) ∈ sm_fl := by decide +kernel
theorem sm_n10 : ∀ i : Nat, i < 11 → Cond.stringRef (sm_st.getD i ("", 0, "")).1 (sm_st.getD i ("", 0, "")).2.1 (sm_st.getD i ("", 0, "")).2.2 ∈ lw_tbl := by
  intro i hi
  rcases (show i = 0 ∨ i = 1 ∨ i = 2 ∨ i = 3 ∨ i = 4 ∨ i = 5 ∨ i = 6 ∨ i = 7 ∨ i = 8 ∨ i = 9 ∨ i = 10 by omega) with rfl | rfl | rfl | rfl | rfl | rfl | rfl | rfl | rfl | rfl | rfl
  · exact sm_in3 (List.mem_of_getElem? (i := 133) rfl)
  · exact sm_in3 (List.mem_of_getElem? (i := 132) rfl)
  · exact sm_in3 (List.mem_of_getElem? (i := 127) rfl)
  · exact sm_in3 (List.mem_of_getElem? (i := 128) rfl)
  · exact sm_in3 (List.mem_of_getElem? (i := 129) rfl)
  · exact sm_in3 (List.mem_of_getElem? (i := 130) rfl)
  · exact sm_in3 (List.mem_of_getElem? (i := 131) rfl)
  · exact sm_in3 (List.mem_of_getElem? (i := 20) rfl)
  · exact sm_in3 (List.mem_of_getElem? (i := 118) rfl)
  · exact sm_in3 (List.mem_of_getElem? (i := 113) rfl)
  · exact sm_in3 (List.mem_of_getElem? (i := 123) rfl)
theorem sm_start {p : Program} {s : State} {m : MethodId} {meth : Method} {c : Code} {b L : Nat} {xs : Nat → Int32} (hL : L ≤ 3072) (C0 : lw_At p s m meth c b L xs) : ∃ G : sm_G, sm_z0 G = s.heap.size ∧ sm_H0 G = s.heap ∧ sm_ro G 0 = b ∧ sm_Ln G = L ∧ sm_xs G = xs ∧ sm_K G s := by
  obtain ⟨hx, hb, hr, hml, hown, hts, hX, hbl, hlocks, hgv⟩ := C0
  have hs := flat_of_before _ hgv
  have hA : ∀ a : Nat, a < s.heap.size → ¬ (fun q : Nat => s.heap.size ≤ q) a := fun a ha => Nat.not_le.mpr ha
  obtain ⟨adK, adV, hvS, hvE⟩ := vk_Sof (N := 11) (tm := sm_tm) (len := sm_len) (byt := sm_byt) (args := #[Value.ref b]) (s := s) (by decide) (fun i hi => hs _ (sm_n1 i hi)) (fun i hi => hs _ (sm_n2 i hi)) (fun i hi => hs _ (sm_n3 i hi)) (fun i hi => hs _ (sm_n4 i hi)) (fun i hi j hj => hs _ (sm_n5 i hi j hj)) (fun i j hi hj hne => (sm_n6 i hi j hj hne).imp (hs _) (hs _)) hA
  have hrow : ∀ k : Nat, ∃ t : Nat, k < 3 → (sm_tp k).eval #[Value.ref b] s none [] s = some (.ref t) ∧ va_T .int t (sm_tl k) (fun j => .int ((sm_rows.getD k []).getD j 0)) (fun q : Nat => s.heap.size ≤ q) s s.heap := by
    intro k
    by_cases hk : k < 3
    · obtain ⟨h1, h2, h3⟩ := sm_n7 k hk
      obtain ⟨t, ht⟩ := va_Tof (f := fun j => .int ((sm_rows.getD k []).getD j 0)) (args := #[Value.ref b]) h3 (hs _ h1) (va_eqt (hs _ h2)) (fun j hj => va_eqt (hs _ (sm_n8 k hk j hj))) hA
      exact ⟨t, fun _ => ht⟩
    · exact ⟨0, fun h => absurd h hk⟩
  obtain ⟨rw, hrw⟩ := Classical.axiomOfChoice hrow
  have hcl : ∀ k : Nat, ∃ q : ClassId × (Nat → Nat), k < 13 → u_Kn s (sm_c k) (sm_T k) (sm_N k) q.1 q.2 := by
    intro k
    by_cases hk : k < 13
    · obtain ⟨w1, w2, w3⟩ := sm_c_cls k hk
      obtain ⟨cC, iS, hKn⟩ := u_known (ws := lw_tbl) (C := sm_c k) (T := sm_T k) (N := sm_N k) (n := sm_N k) hts (fun w hw => (w1 w hw).1) (hts _ w2.1)
      exact ⟨(cC, iS), fun _ => hKn⟩
    · exact ⟨(0, fun _ => 0), fun h => absurd h hk⟩
  obtain ⟨dc, hdc⟩ := Classical.axiomOfChoice hcl
  obtain ⟨cI, hI1, hI2⟩ := sm_arr_of (hts _ sm_c_arr.1.1)
  obtain ⟨cJ, hJ1, hJ2⟩ := sm_arr_of (hts _ sm_c_arr.2.1.1)
  obtain ⟨cS, hS1, hS2⟩ := sm_arrO_of (hts _ sm_c_arr.2.2.1)
  obtain ⟨cT, hT1, hT2⟩ := sm_arrO_of (hts _ sm_c_arr.2.2.2)
  refine ⟨(s.heap.size, s.heap, (fun k => if k = 0 then b else if k < 4 then rw (k - 1) else if k < 15 then adK (k - 4) else adV (k - 15)), (fun k => (dc k).1, fun k => (dc k).2), (fun k => if k = 1 then cI else if k = 2 then cJ else if k = 16 then cS else cT), L, xs), rfl, rfl, rfl, rfl, rfl, ?_⟩
  refine ⟨fun k hk => hdc k hk, ⟨hI1, hI2⟩, ⟨hJ1, hJ2⟩, fun k hk => ?_, fun q hq => ?_, fun q hq => ?_, ⟨?_, ?_, ?_, ?_⟩, ⟨fun i hi => ?_, fun i j hi hj hij => ?_⟩, fun i hi => ?_⟩
  · rcases hk with rfl | rfl
    · exact ⟨hS1, hS2⟩
    · exact ⟨hT1, hT2⟩
  · refine va_Nw.of rfl (hts _ ?_)
    rcases List.mem_append.mp hq with z | z
    · exact (sm_c_MIN q z).1
    · exact (sm_c_MSN q z).1
  · rcases (show q = 0 ∨ q = 1 ∨ q = 2 ∨ q = 3 by omega) with rfl | rfl | rfl | rfl
    · refine ⟨L, rfl, ?_⟩
      obtain ⟨scr, g1, g2, g3, g4, g5⟩ := hX
      refine ⟨scr, g1, g2, g3, Nat.le_of_eq g4.symm, (by rw [g4]), fun j hj => ?_, hA b hbl⟩
      rw [g5 j hj]; rfl
    · exact ⟨8, rfl, (hrw 0 (by decide)).2⟩
    · exact ⟨8, rfl, (hrw 1 (by decide)).2⟩
    · exact ⟨32, rfl, (hrw 2 (by decide)).2⟩
  · exact va_Zof (hts _ (sm_in2 (List.mem_of_getElem? (i := 207) rfl))) (hts _ (sm_in1 (List.mem_of_getElem? (i := 1) rfl))) (hrw 0 (by decide)).1 hA
  · exact va_Zof (hts _ (sm_in5 (List.mem_of_getElem? (i := 38) rfl))) (hts _ (sm_in1 (List.mem_of_getElem? (i := 11) rfl))) (hrw 1 (by decide)).1 hA
  · exact va_Zof (hts _ (sm_in5 (List.mem_of_getElem? (i := 36) rfl))) (hts _ (sm_in1 (List.mem_of_getElem? (i := 11) rfl))) (hrw 2 (by decide)).1 hA
  · exact va_Zof (hts _ (sm_in3 (List.mem_of_getElem? (i := 38) rfl))) (hts _ (sm_in1 (List.mem_of_getElem? (i := 16) rfl))) (va_eqi (hs _ sm_n9)) hA
  · have e1 : (if 4 + i = 0 then b else if 4 + i < 4 then rw (4 + i - 1) else if 4 + i < 15 then adK (4 + i - 4) else adV (4 + i - 15)) = adK i := by
      rw [if_neg (by omega), if_neg (by omega), if_pos (by omega), show 4 + i - 4 = i by omega]
    have e2 : (if 15 + i = 0 then b else if 15 + i < 4 then rw (15 + i - 1) else if 15 + i < 15 then adK (15 + i - 4) else adV (15 + i - 15)) = adV i := by
      rw [if_neg (by omega), if_neg (by omega), if_neg (by omega), show 15 + i - 15 = i by omega]
    show va_O "java/lang/String" (if 4 + i = 0 then b else if 4 + i < 4 then rw (4 + i - 1) else if 4 + i < 15 then adK (4 + i - 4) else adV (4 + i - 15)) _ s s.heap ∧ va_OF "java/lang/String" "coder" "B" (.int 0) (if 4 + i = 0 then b else if 4 + i < 4 then rw (4 + i - 1) else if 4 + i < 15 then adK (4 + i - 4) else adV (4 + i - 15)) _ s s.heap ∧ va_OF "java/lang/String" "value" "[B" (.ref (if 15 + i = 0 then b else if 15 + i < 4 then rw (15 + i - 1) else if 15 + i < 15 then adK (15 + i - 4) else adV (15 + i - 15))) (if 4 + i = 0 then b else if 4 + i < 4 then rw (4 + i - 1) else if 4 + i < 15 then adK (4 + i - 4) else adV (4 + i - 15)) _ s s.heap ∧ va_T .byte (if 15 + i = 0 then b else if 15 + i < 4 then rw (15 + i - 1) else if 15 + i < 15 then adK (15 + i - 4) else adV (15 + i - 15)) (sm_len.getD i 0) (fun j => .int ((sm_byt.getD i []).getD j 0)) _ s s.heap
    rw [e1, e2]
    exact hvS.1 i hi
  · have e1 : ∀ i, i < 11 → (if 4 + i = 0 then b else if 4 + i < 4 then rw (4 + i - 1) else if 4 + i < 15 then adK (4 + i - 4) else adV (4 + i - 15)) = adK i := by
      intro i hi
      rw [if_neg (by omega), if_neg (by omega), if_pos (by omega), show 4 + i - 4 = i by omega]
    have hij2 : (if 4 + i = 0 then b else if 4 + i < 4 then rw (4 + i - 1) else if 4 + i < 15 then adK (4 + i - 4) else adV (4 + i - 15)) = (if 4 + j = 0 then b else if 4 + j < 4 then rw (4 + j - 1) else if 4 + j < 15 then adK (4 + j - 4) else adV (4 + j - 15)) := hij
    rw [e1 i hi, e1 j hj] at hij2
    exact hvS.2 i j hi hj hij2
  · have e1 : (if 4 + i = 0 then b else if 4 + i < 4 then rw (4 + i - 1) else if 4 + i < 15 then adK (4 + i - 4) else adV (4 + i - 15)) = adK i := by
      rw [if_neg (by omega), if_neg (by omega), if_pos (by omega), show 4 + i - 4 = i by omega]
    show vk_R _ _ _ (if 4 + i = 0 then b else if 4 + i < 4 then rw (4 + i - 1) else if 4 + i < 15 then adK (4 + i - 4) else adV (4 + i - 15)) s
    rw [e1]
    exact vk_R.of (hts _ (sm_n10 i hi)) (hvE i hi)
/-- the data at the start -/
def sm_h0 (L : Nat) (xs : Nat → Int32) : sm_H := (sm_roS L, fun q j => if q < 26 then sm_roI xs q j else 0, fun _ _ => 0)
/-- the claim out of a run of the small machine -/
theorem sm_whole {p : Program} {e : Env} {s : State} {m : MethodId} {below : List Frame} {meth : Method} {c : Code} (l : Launch) {b L : Nat} {xs : Nat → Int32} (hL : L ≤ 3072) (C0 : lw_At p s m meth c b L xs) (hrun : sm_Ok 1000 251 0 [.ref 0, .null, .null, .null] [] (sm_h0 L xs) (fun r h' => r = some (.int 1) ∧ h'.1.length ≤ 7000)) :
    W p l e room_1 s m #[Value.ref b] below meth c s.heap [] 0 0 (lw_Z below #[Value.ref b] s) (entryFrame m ([Value.ref b] : List Value).toArray 4) := by
  obtain ⟨G, hz, hH, hro, hLn, hxs, hK⟩ := sm_start hL C0
  obtain ⟨hx, hb, hr, hml, hown, hts, hX, hbl, hlocks, hgv⟩ := C0
  obtain ⟨n, r, h', hev, rfl, hlen⟩ := hrun
  have hl0 : (sm_h0 L xs).1.length = 26 := rfl
  have X : sm_Cx p room_1 s m #[Value.ref b] meth c 251 1000 := ⟨hx, hb, hr, hml, hown, fun w hw => hts w (List.mem_filter.mp hw).1, hlocks, by decide, by decide, fun hq => absurd hq (by decide)⟩
  · have hRO : sm_RO G (sm_h0 L xs) := ⟨fun q hq => by rw [hLn]; rfl, fun q hq j => by
      rw [hxs]
      show (if q < 26 then sm_roI xs q j else 0) = _
      rw [if_pos hq]⟩
    have hW : sm_Wd G (sm_h0 L xs) s.heap := ⟨by rw [hl0, hz], by rw [hl0]; exact Nat.le_refl _, fun a ha => by rw [hH], fun q ee hq he => absurd (List.getElem?_eq_some_iff.mp he).1 (by rw [hl0]; omega)⟩
    have hp := (sm_ev_pr _ _ _ _ _ _ _ _ _ hev).1
    rw [hl0] at hp
    have hGo := sm_sim l G n 1000 251 0 _ _ _ _ _ hev p e room_1 s m #[Value.ref b] below meth c (lw_Z below #[Value.ref b] s) 26 X hK hRO (by rw [hl0]; exact Nat.le_refl _) (by rw [hl0]; exact Nat.le_refl _) (by show h'.1.length - 26 ≤ 600000; omega) (by show 1000 * (h'.1.length - 26) ≤ 7302250; omega) ?_
    · have hL2 := sm_enter G (as := [.ref 0]) (n := 4) (by decide)
      have ea : ([Value.ref 0] : List Value).map (sm_tr G) = [Value.ref b] := by
        show [Value.ref (sm_ad G 0)] = _
        rw [show sm_ad G 0 = b by unfold sm_ad; rw [if_pos (by decide)]; exact hro]
      rw [ea] at hL2
      rw [lg_entry_eq]
      have hW2 := hGo _ s.heap [] hL2 hW (fun _ hq => absurd hq List.not_mem_nil)
      rw [hl0, Nat.sub_self, Nat.mul_zero] at hW2
      exact hW2
    · intro pc L' st i len a bb z hcd hrt ls H locs h1 h2 h3
      obtain ⟨hd, hln, -, -⟩ := sm_cd_ok hcd
      unfold sm_rt at hrt
      split at hrt
      · rename_i v
        obtain rfl : len = 1 := by simpa [sm_ilen] using hln
        split at hrt
        · split at hrt
          · cases hrt
            refine va_forget (by rw [← hz]; exact h3) ?_
            refine W.widen (k := 600000) (n := 7302250) (by omega) (by omega) ?_
            exact lw_ret hx hb hr hlocks hd
          · cases hrt
        · cases hrt
      · split at hrt <;> cases hrt
      · split at hrt <;> cases hrt
      · split at hrt <;> cases hrt
      · cases hrt
