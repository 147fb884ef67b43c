/-! a step of the small machine is a step of the machine -/
section
variable {p : Program} {l : Launch} {e : Env} {R : Room} {s : State} {m : MethodId} {args : Array Value} {below : List Frame} {meth : Method} {c : Code} {Q : State → Prop} {G : sm_G} {n0 nL mi d pc : Nat} {L st : List Value} {h : sm_H}
set_option maxHeartbeats 2000000 in
theorem sm_ssim (X : sm_Cx p R s m args meth c mi d) (hK : sm_K G s) (hRO : sm_RO G h) (hnL : nL = sm_mxl mi) {i : Instr} {len a b : Nat} {z : Int} (hd : decode (sm_by mi) pc = .ok (i, len)) (hl : sm_ilen i len = true) (hk : sm_chk (sm_cls mi) (i, len, a, b, z) = true)
    (hf : ∀ ix, i = .putfield ix → (sm_T a b).2.2.2 = true → (sm_y mi).name = "<init>" ∧ sm_cls mi = a) {pc' : Nat} {L' st' : List Value} {h' : sm_H} (hs : sm_step i len a b z pc L st h = some (pc', L', st', h')) (hn : n0 ≤ h.1.length) (hR : h'.1.length - n0 ≤ R.cells) (hS : 1000 * (h'.1.length - n0) ≤ R.slots)
    (kk : sm_Go p l e R s m args below meth c Q G n0 nL pc' L' st' h') : sm_Go p l e R s m args below meth c Q G n0 nL pc L st h := by
  cases i with
  | iconst n =>
    obtain rfl : len = 1 := by simpa [sm_ilen] using hl
    simp only [sm_step] at hs
    cases hs
    exact sm_g_iconst X hd kk
  | bipush n =>
    obtain rfl : len = 2 := by simpa [sm_ilen] using hl
    simp only [sm_step] at hs
    cases hs
    exact sm_g_bipush X hd kk
  | sipush n =>
    obtain rfl : len = 3 := by simpa [sm_ilen] using hl
    simp only [sm_step] at hs
    cases hs
    exact sm_g_sipush X hd kk
  | lconst n =>
    obtain rfl : len = 1 := by simpa [sm_ilen] using hl
    simp only [sm_step] at hs
    cases hs
    exact sm_g_lconst X hd kk
  | iload_n j =>
    obtain rfl : len = 1 := by simpa [sm_ilen] using hl
    simp only [sm_step] at hs
    split at hs
    · rename_i x hx
      cases hs
      exact sm_g_iload_n X hd hx kk
    · cases hs
  | iload j =>
    obtain rfl : len = 2 := by simpa [sm_ilen] using hl
    simp only [sm_step] at hs
    split at hs
    · rename_i x hx
      cases hs
      exact sm_g_iload X hd hx kk
    · cases hs
  | lload_n j =>
    obtain rfl : len = 1 := by simpa [sm_ilen] using hl
    simp only [sm_step] at hs
    split at hs
    · rename_i x hx
      cases hs
      exact sm_g_lload_n X hd hx kk
    · cases hs
  | lload j =>
    obtain rfl : len = 2 := by simpa [sm_ilen] using hl
    simp only [sm_step] at hs
    split at hs
    · rename_i x hx
      cases hs
      exact sm_g_lload X hd hx kk
    · cases hs
  | aload_n j =>
    obtain rfl : len = 1 := by simpa [sm_ilen] using hl
    simp only [sm_step] at hs
    split at hs
    · rename_i x hx
      cases hs
      exact sm_g_aload_n X hd hx kk
    · cases hs
  | aload j =>
    obtain rfl : len = 2 := by simpa [sm_ilen] using hl
    simp only [sm_step] at hs
    split at hs
    · rename_i x hx
      cases hs
      exact sm_g_aload X hd hx kk
    · cases hs
  | istore_n j =>
    obtain rfl : len = 1 := by simpa [sm_ilen] using hl
    simp only [sm_step] at hs
    split at hs
    · split at hs
      · rename_i hc
        cases hs
        exact sm_g_istore_n X hd hc.1 hc.2 kk
      · cases hs
    · cases hs
  | istore j =>
    obtain rfl : len = 2 := by simpa [sm_ilen] using hl
    simp only [sm_step] at hs
    split at hs
    · split at hs
      · rename_i hc
        cases hs
        exact sm_g_istore X hd hc.1 hc.2 kk
      · cases hs
    · cases hs
  | astore_n j =>
    obtain rfl : len = 1 := by simpa [sm_ilen] using hl
    simp only [sm_step] at hs
    split at hs
    · split at hs
      · rename_i hc
        cases hs
        exact sm_g_astore_n X hd hc.1 hc.2 kk
      · cases hs
    · cases hs
  | astore j =>
    obtain rfl : len = 2 := by simpa [sm_ilen] using hl
    simp only [sm_step] at hs
    split at hs
    · split at hs
      · rename_i hc
        cases hs
        exact sm_g_astore X hd hc.1 hc.2 kk
      · cases hs
    · cases hs
  | iinc j n =>
    obtain rfl : len = 3 := by simpa [sm_ilen] using hl
    simp only [sm_step] at hs
    split at hs
    · rename_i x hx
      split at hs
      · rename_i hc
        cases hs
        exact sm_g_iinc X hd hx hc.1 hc.2.1 kk
      · cases hs
    · cases hs
  | iadd =>
    obtain rfl : len = 1 := by simpa [sm_ilen] using hl
    simp only [sm_step] at hs
    split at hs
    · cases hs
      exact sm_g_iadd X hd kk
    · cases hs
  | isub =>
    obtain rfl : len = 1 := by simpa [sm_ilen] using hl
    simp only [sm_step] at hs
    split at hs
    · cases hs
      exact sm_g_isub X hd kk
    · cases hs
  | imul =>
    obtain rfl : len = 1 := by simpa [sm_ilen] using hl
    simp only [sm_step] at hs
    split at hs
    · cases hs
      exact sm_g_imul X hd kk
    · cases hs
  | iand =>
    obtain rfl : len = 1 := by simpa [sm_ilen] using hl
    simp only [sm_step] at hs
    split at hs
    · cases hs
      exact sm_g_iand X hd kk
    · cases hs
  | ior =>
    obtain rfl : len = 1 := by simpa [sm_ilen] using hl
    simp only [sm_step] at hs
    split at hs
    · cases hs
      exact sm_g_ior X hd kk
    · cases hs
  | ixor =>
    obtain rfl : len = 1 := by simpa [sm_ilen] using hl
    simp only [sm_step] at hs
    split at hs
    · cases hs
      exact sm_g_ixor X hd kk
    · cases hs
  | ineg =>
    obtain rfl : len = 1 := by simpa [sm_ilen] using hl
    simp only [sm_step] at hs
    split at hs
    · cases hs
      exact sm_g_ineg X hd kk
    · cases hs
  | ishl =>
    obtain rfl : len = 1 := by simpa [sm_ilen] using hl
    simp only [sm_step] at hs
    split at hs
    · cases hs
      exact sm_g_ishl X hd kk
    · cases hs
  | ishr =>
    obtain rfl : len = 1 := by simpa [sm_ilen] using hl
    simp only [sm_step] at hs
    split at hs
    · cases hs
      exact sm_g_ishr X hd kk
    · cases hs
  | iushr =>
    obtain rfl : len = 1 := by simpa [sm_ilen] using hl
    simp only [sm_step] at hs
    split at hs
    · cases hs
      exact sm_g_iushr X hd kk
    · cases hs
  | land =>
    obtain rfl : len = 1 := by simpa [sm_ilen] using hl
    simp only [sm_step] at hs
    split at hs
    · cases hs
      exact sm_g_land X hd kk
    · cases hs
  | lor =>
    obtain rfl : len = 1 := by simpa [sm_ilen] using hl
    simp only [sm_step] at hs
    split at hs
    · cases hs
      exact sm_g_lor X hd kk
    · cases hs
  | lshl =>
    obtain rfl : len = 1 := by simpa [sm_ilen] using hl
    simp only [sm_step] at hs
    split at hs
    · cases hs
      exact sm_g_lshl X hd kk
    · cases hs
  | lcmp =>
    obtain rfl : len = 1 := by simpa [sm_ilen] using hl
    simp only [sm_step] at hs
    split at hs
    · cases hs
      exact sm_g_lcmp X hd kk
    · cases hs
  | i2l =>
    obtain rfl : len = 1 := by simpa [sm_ilen] using hl
    simp only [sm_step] at hs
    split at hs
    · cases hs
      exact sm_g_i2l X hd kk
    · cases hs
  | l2i =>
    obtain rfl : len = 1 := by simpa [sm_ilen] using hl
    simp only [sm_step] at hs
    split at hs
    · cases hs
      exact sm_g_l2i X hd kk
    · cases hs
  | i2b =>
    obtain rfl : len = 1 := by simpa [sm_ilen] using hl
    simp only [sm_step] at hs
    split at hs
    · cases hs
      exact sm_g_i2b X hd kk
    · cases hs
  | i2s =>
    obtain rfl : len = 1 := by simpa [sm_ilen] using hl
    simp only [sm_step] at hs
    split at hs
    · cases hs
      exact sm_g_i2s X hd kk
    · cases hs
  | i2c =>
    obtain rfl : len = 1 := by simpa [sm_ilen] using hl
    simp only [sm_step] at hs
    split at hs
    · cases hs
      exact sm_g_i2c X hd kk
    · cases hs
  | idiv =>
    obtain rfl : len = 1 := by simpa [sm_ilen] using hl
    simp only [sm_step] at hs
    split at hs
    · split at hs
      · cases hs
      · rename_i hy
        cases hs
        exact sm_g_idiv X hd hy kk
    · cases hs
  | irem =>
    obtain rfl : len = 1 := by simpa [sm_ilen] using hl
    simp only [sm_step] at hs
    split at hs
    · split at hs
      · cases hs
      · rename_i hy
        cases hs
        exact sm_g_irem X hd hy kk
    · cases hs
  | dup =>
    obtain rfl : len = 1 := by simpa [sm_ilen] using hl
    simp only [sm_step] at hs
    split at hs
    · split at hs
      · rename_i hv
        cases hs
        exact sm_g_dup X hd hv kk
      · cases hs
    · cases hs
  | pop =>
    obtain rfl : len = 1 := by simpa [sm_ilen] using hl
    simp only [sm_step] at hs
    split at hs
    · split at hs
      · rename_i hv
        cases hs
        exact sm_g_pop X hd hv kk
      · cases hs
    · cases hs
  | dup2 =>
    obtain rfl : len = 1 := by simpa [sm_ilen] using hl
    simp only [sm_step] at hs
    split at hs
    · split at hs
      · rename_i hv
        cases hs
        exact sm_g_dup2 X hd hv.1 hv.2 kk
      · cases hs
    · cases hs
  | goto off =>
    obtain rfl : len = 3 := by simpa [sm_ilen] using hl
    simp only [sm_step] at hs
    split at hs
    · rename_i ho
      cases hs
      exact sm_g_goto X hd ho kk
    · cases hs
  | ifCond cd off =>
    obtain rfl : len = 3 := by simpa [sm_ilen] using hl
    simp only [sm_step] at hs
    split at hs
    · split at hs
      · rename_i ho
        split at hs
        · rename_i hc
          cases hs
          exact sm_g_if X hd ho (fun _ => kk) (fun q => absurd hc q)
        · rename_i hc
          cases hs
          exact sm_g_if X hd ho (fun q => absurd q hc) (fun _ => kk)
      · cases hs
    · cases hs
  | if_icmp cd off =>
    obtain rfl : len = 3 := by simpa [sm_ilen] using hl
    simp only [sm_step] at hs
    split at hs
    · split at hs
      · rename_i ho
        split at hs
        · rename_i hc
          cases hs
          exact sm_g_icmp X hd ho (fun _ => kk) (fun q => absurd hc q)
        · rename_i hc
          cases hs
          exact sm_g_icmp X hd ho (fun q => absurd q hc) (fun _ => kk)
      · cases hs
    · cases hs
  | tableswitch df lo hi offs =>
    simp only [sm_step] at hs
    split at hs
    · split at hs
      · rename_i hx
        split at hs
        · rename_i ho
          cases hs
          exact sm_g_tabO X hd hx ho kk
        · cases hs
      · rename_i hx
        split at hs
        · rename_i off hf2
          split at hs
          · rename_i ho
            cases hs
            exact sm_g_tabI X hd hx hf2 ho kk
          · cases hs
        · cases hs
    · cases hs
  | lookupswitch df ps =>
    simp only [sm_step] at hs
    split at hs
    · split at hs
      · rename_i ho
        cases hs
        exact sm_g_look X hd ho.1 ho.2 kk
      · cases hs
    · cases hs
  | ldc ix =>
    obtain rfl : len = 2 := by simpa [sm_ilen] using hl
    simp only [sm_step] at hs
    simp only [sm_chk] at hk
    split at hs
    · rename_i ha
      rw [if_pos ha] at hk
      cases hs
      exact sm_g_ldcI X hd hk kk
    · rename_i ha
      rw [if_neg ha] at hk
      cases hs
      exact sm_g_ldcS X hK hd hk kk
  | ldc_w ix =>
    obtain rfl : len = 3 := by simpa [sm_ilen] using hl
    simp only [sm_step] at hs
    simp only [sm_chk] at hk
    cases hs
    exact sm_g_ldcw X hd hk kk
  | ldc2_w ix =>
    obtain rfl : len = 3 := by simpa [sm_ilen] using hl
    simp only [sm_step] at hs
    simp only [sm_chk] at hk
    cases hs
    exact sm_g_ldc2 X hd hk kk
  | getstatic ix =>
    obtain rfl : len = 3 := by simpa [sm_ilen] using hl
    simp only [sm_step] at hs
    simp only [sm_chk] at hk
    split at hs
    · rename_i ha
      cases hs
      exact sm_g_gets X hK hd hk (fun _ => kk) (fun q => absurd ha q)
    · rename_i ha
      cases hs
      exact sm_g_gets X hK hd hk (fun q => absurd q ha) (fun _ => kk)
  | getfield ix =>
    obtain rfl : len = 3 := by simpa [sm_ilen] using hl
    simp only [sm_step] at hs
    simp only [sm_chk] at hk
    split at hs
    · split at hs
      · rename_i zq zst zx kd cc rs he
        split at hs
        · rename_i hc
          obtain ⟨rfl, rfl, hq, hb⟩ := hc
          have h13 : ¬ cc = 13 := by
            intro q13
            subst q13
            exact absurd hb (by show ¬ b < 0; omega)
          rw [if_neg h13] at hk
          split at hs
          · rename_i hfk
            split at hs
            · rename_i r hr
              cases hs
              refine sm_g_getf X hK hd hk hq he (v := sm_rv r) ?_ kk
              unfold sm_fv
              rw [if_pos hfk, List.getD_eq_getElem?_getD, hr]; rfl
            · cases hs
          · rename_i hfk
            cases hs
            refine sm_g_getf X hK hd hk hq he (v := .int (h.2.1 zq b)) ?_ kk
            unfold sm_fv
            rw [if_neg hfk]; rfl
        · split at hs
          · rename_i hc
            obtain ⟨rfl, rfl, hq, hq2⟩ := hc
            rw [if_pos rfl] at hk
            split at hs
            · rename_i hb
              cases hs
              exact sm_g_getS X hK hd hk hq hq2 (fun _ => kk) (fun q => absurd hb q)
            · rename_i hb
              cases hs
              exact sm_g_getS X hK hd hk hq hq2 (fun q => absurd q hb) (fun _ => kk)
          · cases hs
      · cases hs
    · cases hs
  | putfield ix =>
    obtain rfl : len = 3 := by simpa [sm_ilen] using hl
    simp only [sm_step] at hs
    simp only [sm_chk] at hk
    split at hs
    · split at hs
      · rename_i zv zq zst zx kd cc rs he
        split at hs
        · rename_i hc
          obtain ⟨rfl, rfl, hq, hb, hlr⟩ := hc
          have ha : cc < 13 := (sm_c_FT _ (List.contains_iff_mem.mp hk)).2.2.1
          obtain ⟨t0, t1, t2, t3⟩ := sm_c_ty2 ⟨cc, ha⟩ b hb
          have t0 : sm_fk cc b = 0 → sm_ty cc b = .int := t0
          have t1 : sm_fk cc b = 1 → sm_ty cc b = .boolean := t1
          have hlt : zq < h.1.length := (List.getElem?_eq_some_iff.mp he).1
          have hself : h.1.set zq (0, cc, rs) = h.1 := by
            apply List.ext_getElem?
            intro j
            by_cases hj : zq = j
            · subst hj; rw [List.getElem?_set_self hlt, he]
            · rw [List.getElem?_set_ne hj]
          split at hs
          · rename_i x
            split at hs
            · rename_i hfk
              cases hs
              have hnf : ¬ sm_fk cc b = 2 := by rcases hfk with q | q <;> omega
              refine sm_g_putf X hK (rs' := rs) (I' := sm_uI h.2.1 zq b x) hd hk (hf ix rfl) hq he rfl (v := .int x) ?_ ?_ (fun r hr j => ?_) (fun j hj => ?_) (by rw [hself]; exact kk)
              · rcases hfk with q | ⟨q, q2⟩
                · rw [t0 q]; rfl
                · rw [t1 q]; rcases q2 with rfl | rfl <;> rfl
              · rcases hfk with q | ⟨q, q2⟩
                · rw [t0 q]; rfl
                · rw [t1 q]; rcases q2 with rfl | rfl <;> rfl
              · unfold sm_uI; rw [if_neg (fun z => hr z.1)]
              · unfold updV sm_fv
                by_cases hjb : j = b
                · subst hjb
                  rw [if_pos rfl, if_neg hnf]
                  show Value.int x = Value.int (sm_uI h.2.1 zq j x zq j)
                  unfold sm_uI; rw [if_pos ⟨rfl, rfl⟩]
                · rw [if_neg hjb]
                  show (if sm_fk cc j = 2 then _ else Value.int (h.2.1 zq j)) = (if sm_fk cc j = 2 then _ else Value.int (sm_uI h.2.1 zq b x zq j))
                  have e9 : sm_uI h.2.1 zq b x zq j = h.2.1 zq j := by unfold sm_uI; rw [if_neg (fun z => hjb z.2)]
                  rw [e9]
            · cases hs
          · rename_i r
            split at hs
            · rename_i hfk
              cases hs
              have t4 : (match sm_ty cc b with | .object _ => true | .array _ => true | _ => false) = true := t2 hfk
              have hbl : b < rs.length := by rw [hlr]; exact hb
              refine sm_g_putf X hK (rs' := rs.set b (some r)) (I' := h.2.1) hd hk (hf ix rfl) hq he List.length_set (v := .ref r) ?_ ?_ (fun _ _ _ => rfl) (fun j hj => ?_) kk
              · cases hty : sm_ty cc b with
                | object n => rfl
                | array t => rfl
                | _ => rw [hty] at t4; cases t4
              · cases hty : sm_ty cc b with
                | object n => rfl
                | array t => rfl
                | _ => rw [hty] at t4; cases t4
              · unfold updV sm_fv
                by_cases hjb : j = b
                · subst hjb
                  rw [if_pos rfl, if_pos hfk, List.getD_eq_getElem?_getD, List.getElem?_set_self hbl]; rfl
                · rw [if_neg hjb, List.getD_eq_getElem?_getD, List.getD_eq_getElem?_getD, List.getElem?_set_ne (Ne.symm hjb)]
            · cases hs
          · cases hs
        · cases hs
      · cases hs
    · cases hs
  | arraylength =>
    obtain rfl : len = 1 := by simpa [sm_ilen] using hl
    simp only [sm_step] at hs
    split at hs
    · split at hs
      · rename_i he
        split at hs
        · rename_i hc
          cases hs
          exact sm_g_alen X hK hRO hd he hc kk
        · cases hs
      · cases hs
    · cases hs
  | iaload =>
    obtain rfl : len = 1 := by simpa [sm_ilen] using hl
    simp only [sm_step] at hs
    split at hs
    · split at hs
      · rename_i he
        split at hs
        · rename_i hc
          obtain ⟨rfl, hc⟩ := hc
          cases hs
          exact sm_g_iald X hK hRO hd he hc kk
        · cases hs
      · cases hs
    · cases hs
  | baload =>
    obtain rfl : len = 1 := by simpa [sm_ilen] using hl
    simp only [sm_step] at hs
    split at hs
    · split at hs
      · rename_i he
        split at hs
        · rename_i hc
          obtain ⟨rfl, hc⟩ := hc
          cases hs
          exact sm_g_bald X hK hRO hd he hc kk
        · cases hs
      · cases hs
    · cases hs
  | laload =>
    obtain rfl : len = 1 := by simpa [sm_ilen] using hl
    simp only [sm_step] at hs
    split at hs
    · split at hs
      · rename_i he
        split at hs
        · rename_i hc
          obtain ⟨rfl, hc⟩ := hc
          cases hs
          exact sm_g_lald X hK hRO hd he hc kk
        · cases hs
      · cases hs
    · cases hs
  | aaload =>
    obtain rfl : len = 1 := by simpa [sm_ilen] using hl
    simp only [sm_step] at hs
    split at hs
    · split at hs
      · rename_i he
        split at hs
        · rename_i hc
          obtain ⟨rfl, hc⟩ := hc
          cases hs
          exact sm_g_aald X hK hRO hd he hc kk
        · cases hs
      · cases hs
    · cases hs
  | iastore =>
    obtain rfl : len = 1 := by simpa [sm_ilen] using hl
    simp only [sm_step] at hs
    split at hs
    · split at hs
      · rename_i he
        split at hs
        · rename_i hc
          obtain ⟨rfl, hc, hq⟩ := hc
          cases hs
          exact sm_g_iast X hK hd he hc hq kk
        · cases hs
      · cases hs
    · cases hs
  | lastore =>
    obtain rfl : len = 1 := by simpa [sm_ilen] using hl
    simp only [sm_step] at hs
    split at hs
    · split at hs
      · rename_i he
        split at hs
        · rename_i hc
          obtain ⟨rfl, hc, hq⟩ := hc
          cases hs
          exact sm_g_last X hK hd he hc hq kk
        · cases hs
      · cases hs
    · cases hs
  | aastore =>
    obtain rfl : len = 1 := by simpa [sm_ilen] using hl
    simp only [sm_step] at hs
    split at hs
    · split at hs
      · rename_i he hr
        split at hs
        · rename_i hc
          obtain ⟨rfl, hc, hq, rfl, rfl, hr2⟩ := hc
          cases hs
          exact sm_g_aast X hK hd he hr hc hq hr2 kk
        · cases hs
      · cases hs
    · cases hs
  | new ix =>
    obtain rfl : len = 3 := by simpa [sm_ilen] using hl
    simp only [sm_step] at hs
    simp only [sm_chk] at hk
    cases hs
    have e1 : (h.1 ++ [(0, a, List.replicate (sm_N a) (none : Option Nat))]).length = h.1.length + 1 := by simp
    exact sm_g_new X hK hd hk hn (by rw [← e1]; exact hR) (by rw [← e1]; exact hS) kk
  | newarray t =>
    obtain rfl : len = 2 := by simpa [sm_ilen] using hl
    simp only [sm_step] at hs
    simp only [sm_chk] at hk
    split at hs
    · split at hs
      · rename_i hc
        split at hs
        · rename_i n st2 ha
          cases hs
          have e1 : (h.1 ++ [(1, n.toNatClampNeg, ([] : List (Option Nat)))]).length = h.1.length + 1 := by simp
          exact sm_g_newa X hK hd hk hn (by rw [← e1]; exact hR) (by rw [← e1]; exact hS) hc.1 hc.2 (fun _ => kk) (fun q => absurd ha q)
        · rename_i n st2 ha
          cases hs
          have e1 : (h.1 ++ [(2, n.toNatClampNeg, ([] : List (Option Nat)))]).length = h.1.length + 1 := by simp
          exact sm_g_newa X hK hd hk hn (by rw [← e1]; exact hR) (by rw [← e1]; exact hS) hc.1 hc.2 (fun q => absurd q ha) (fun _ => kk)
      · cases hs
    · cases hs
  | anewarray ix =>
    obtain rfl : len = 3 := by simpa [sm_ilen] using hl
    simp only [sm_step] at hs
    simp only [sm_chk] at hk
    split at hs
    · split at hs
      · rename_i n st2 hc
        cases hs
        have e1 : (h.1 ++ [(3, a, List.replicate n.toNatClampNeg (none : Option Nat))]).length = h.1.length + 1 := by simp
        exact sm_g_anew X hK hd hk hn (by rw [← e1]; exact hR) (by rw [← e1]; exact hS) hc.1 hc.2 kk
      · cases hs
    · cases hs
  | invokespecial ix =>
    obtain rfl : len = 3 := by simpa [sm_ilen] using hl
    simp only [sm_step] at hs
    simp only [sm_chk] at hk
    split at hs
    · rename_i ha
      rw [if_pos ha] at hk
      split at hs
      · split at hs
        · rename_i hc
          cases hs
          exact sm_g_oinit X hd hk hc kk hnL
        · cases hs
      · cases hs
    · cases hs
  | invokestatic ix =>
    obtain rfl : len = 3 := by simpa [sm_ilen] using hl
    simp only [sm_step] at hs
    simp only [sm_chk] at hk
    split at hs
    · rename_i ha
      rw [if_pos ha] at hk
      split at hs
      · split at hs
        · rename_i e1 e2
          split at hs
          · rename_i hc
            obtain ⟨c1, c2, c3, c4, c5, c6, c7, c8, c9, c10⟩ := hc
            split at hs
            · rename_i hks
              subst hks
              subst c2
              cases hs
              exact sm_g_copyI X hK hd hk hnL c10 e1 e2 c9 c8 c3 c4 c5 c6 c7 kk
            · rename_i hks
              have hks2 := c1.resolve_left hks
              subst hks2
              subst c2
              cases hs
              exact sm_g_copyJ X hK hd hk hnL c10 e1 e2 c9 c8 c3 c4 c5 c6 c7 kk
          · cases hs
        · cases hs
      · cases hs
    · rename_i ha
      rw [if_neg ha] at hk
      split at hs
      · rename_i ha2
        rw [if_pos ha2] at hk
        split at hs
        · split at hs
          · rename_i hc
            cases hs
            exact sm_g_max X hd hk hc hR hS kk hnL
          · cases hs
        · cases hs
      · rename_i ha2
        rw [if_neg ha2] at hk
        split at hs
        · rename_i ha3
          rw [if_pos ha3] at hk
          split at hs
          · split at hs
            · rename_i hc
              cases hs
              exact sm_g_min X hd hk hc hR hS kk hnL
            · cases hs
          · cases hs
        · cases hs
  | _ => simp only [sm_step] at hs; cases hs
end
