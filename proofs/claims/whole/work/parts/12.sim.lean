/-! the small machine's runs are the machine's -/
theorem sm_lookup_mem {β : Type} : ∀ (t : List (Nat × β)) (k : Nat) (v : β), t.lookup k = some v → (k, v) ∈ t
  | [], _, _, h => by cases h
  | (a, b) :: t, k, v, h => by
    by_cases hk : (k == a) = true
    · simp only [List.lookup, hk] at h
      cases h
      rw [beq_iff_eq.mp hk]
      exact List.mem_cons_self
    · have hk2 : (k == a) = false := by simpa using hk
      simp only [List.lookup, hk2] at h
      exact List.mem_cons_of_mem _ (sm_lookup_mem t k v h)
theorem sm_cd_ok {mi pc : Nat} {i : Instr} {len a b : Nat} {z : Int} (h : sm_cd mi pc = some (i, len, a, b, z)) : decode (sm_by mi) pc = .ok (i, len) ∧ sm_ilen i len = true ∧ sm_chk (sm_cls mi) (i, len, a, b, z) = true ∧ (∀ ix, i = .putfield ix → (sm_T a b).2.2.2 = true → (sm_y mi).name = "<init>" ∧ sm_cls mi = a) := by
  unfold sm_cd at h
  cases hq : sm_M[mi]? with
  | none => rw [hq] at h; cases h
  | some qq =>
    rw [hq] at h
    have hm : qq ∈ sm_M := List.mem_of_getElem? hq
    have he : (pc, i, len, a, b, z) ∈ qq.2.2.2.2.2 := sm_lookup_mem _ _ _ h
    have h1 := sm_okM qq hm
    have h2 := List.all_eq_true.mp sm_lenM qq hm
    have h3 := List.all_eq_true.mp sm_finM qq hm
    unfold sm_okm sm_okt at h1
    have h1 := List.all_eq_true.mp h1 _ he
    have h2 := List.all_eq_true.mp h2 _ he
    unfold sm_fin at h3
    have h3 := List.all_eq_true.mp h3 _ he
    rw [Bool.and_eq_true] at h1
    have e1 : sm_by mi = qq.2.1 := by unfold sm_by; rw [hq]
    have e2 : sm_cls mi = qq.2.2.2.2.1 := by unfold sm_cls; rw [hq]
    have e3 : sm_y mi = qq.1 := by unfold sm_y; rw [hq]
    rw [e1, e2, e3]
    refine ⟨of_decide_eq_true h1.1, h2, h1.2, fun ix hx hf => ?_⟩
    subst hx
    have h3 : (!(sm_T a b).2.2.2 || (qq.1.name == "<init>" && qq.2.2.2.2.1 == a)) = true := h3
    rw [hf] at h3
    simpa using h3
/-! what stays -/
def sm_pr (h h' : sm_H) : Prop := h.1.length ≤ h'.1.length ∧ (26 ≤ h.1.length → ∀ q : Nat, q < 26 → h'.1[q]? = h.1[q]? ∧ ∀ j : Nat, h'.2.1 q j = h.2.1 q j)
theorem sm_pr.rf (h : sm_H) : sm_pr h h := ⟨Nat.le_refl _, fun _ _ _ => ⟨rfl, fun _ => rfl⟩⟩
theorem sm_pr.tr {h h1 h2 : sm_H} (a : sm_pr h h1) (b : sm_pr h1 h2) : sm_pr h h2 := ⟨Nat.le_trans a.1 b.1, fun z q hq => ⟨((b.2 (Nat.le_trans z a.1) q hq).1).trans (a.2 z q hq).1, fun j => ((b.2 (Nat.le_trans z a.1) q hq).2 j).trans ((a.2 z q hq).2 j)⟩⟩
theorem sm_pr_uI {h : sm_H} {q k : Nat} {v : Int32} {J : sm_J} (hq : 26 ≤ q) : sm_pr h (h.1, sm_uI h.2.1 q k v, J) := ⟨Nat.le_refl _, fun _ r hr => ⟨rfl, fun j => by
  show sm_uI h.2.1 q k v r j = _
  unfold sm_uI; rw [if_neg (fun z => by omega)]⟩⟩
theorem sm_pr_J {h : sm_H} {J : sm_J} : sm_pr h (h.1, h.2.1, J) := ⟨Nat.le_refl _, fun _ _ _ => ⟨rfl, fun _ => rfl⟩⟩
theorem sm_pr_set {h : sm_H} {q : Nat} {x : Nat × Nat × List (Option Nat)} {J : sm_J} (hq : 26 ≤ q) : sm_pr h (h.1.set q x, h.2.1, J) := ⟨by show _ ≤ (h.1.set q x).length; rw [List.length_set]; exact Nat.le_refl _, fun _ r hr => ⟨List.getElem?_set_ne (by omega), fun _ => rfl⟩⟩
theorem sm_pr_cI {h : sm_H} {a d sp dp n : Nat} {J : sm_J} (hd : 26 ≤ d) : sm_pr h (h.1, sm_cI h.2.1 a d sp dp n, J) := ⟨Nat.le_refl _, fun _ r hr => ⟨rfl, fun j => by
  show sm_cI h.2.1 a d sp dp n r j = _
  unfold sm_cI; rw [if_neg (by omega)]⟩⟩
theorem sm_pr_p1 {h : sm_H} {x : Nat × Nat × List (Option Nat)} {J : sm_J} : sm_pr h (h.1 ++ [x], sm_z32 h.2.1 h.1.length, J) := ⟨by show _ ≤ (h.1 ++ [x]).length; simp, fun z r hr => ⟨List.getElem?_append_left (by omega), fun j => by
  show sm_z32 h.2.1 h.1.length r j = _
  unfold sm_z32; rw [if_neg (by omega)]⟩⟩
theorem sm_pr_p2 {h : sm_H} {x : Nat × Nat × List (Option Nat)} {J : sm_J} : sm_pr h (h.1 ++ [x], h.2.1, J) := ⟨by show _ ≤ (h.1 ++ [x]).length; simp, fun z r hr => ⟨List.getElem?_append_left (by omega), fun _ => rfl⟩⟩
theorem sm_pr.ro {G : sm_G} {h h' : sm_H} (a : sm_pr h h') (z : 26 ≤ h.1.length) (b : sm_RO G h) : sm_RO G h' := ⟨fun q hq => ((a.2 z q hq).1).trans (b.1 q hq), fun q hq j => ((a.2 z q hq).2 j).trans (b.2 q hq j)⟩
set_option maxHeartbeats 4000000 in
theorem sm_step_pr {i : Instr} {len a b : Nat} {z : Int} {pc : Nat} {L st : List Value} {h : sm_H} {pc' : Nat} {L' st' : List Value} {h' : sm_H} (hs : sm_step i len a b z pc L st h = some (pc', L', st', h')) : sm_pr h h' := by
  cases i <;> simp only [sm_step] at hs <;> (repeat' split at hs) <;> first
    | (cases hs; done)
    | (cases hs; exact sm_pr.rf _)
    | (cases hs; exact sm_pr_J)
    | (cases hs; exact sm_pr_uI (‹_ ∧ _ ∧ 26 ≤ _› : _ ∧ _ ∧ 26 ≤ _).2.2)
    | (cases hs; exact sm_pr_uI (‹_ ∧ _ ∧ 26 ≤ _ ∧ _› : _ ∧ _ ∧ 26 ≤ _ ∧ _).2.2.1)
    | (cases hs; exact sm_pr_set (‹_ ∧ _ ∧ 26 ≤ _ ∧ _› : _ ∧ _ ∧ 26 ≤ _ ∧ _).2.2.1)
    | (cases hs; exact sm_pr_cI (‹_ ∧ _ ∧ _ ∧ _ ∧ _ ∧ _ ∧ _ ∧ 26 ≤ _ ∧ _› : _ ∧ _ ∧ _ ∧ _ ∧ _ ∧ _ ∧ _ ∧ 26 ≤ _ ∧ _).2.2.2.2.2.2.2.1)
    | (cases hs; exact sm_pr_p1)
    | (cases hs; exact sm_pr_p2)
theorem sm_ev_inv {n d mi pc : Nat} {L st : List Value} {h : sm_H} {r : Option Value} {h' : sm_H} (hev : sm_ev (n + 1) d mi pc L st h = some (r, h')) :
    ∃ (i : Instr) (len a b : Nat) (z : Int), sm_cd mi pc = some (i, len, a, b, z) ∧ ((sm_rt mi i st = some r ∧ h' = h) ∨
      (sm_rt mi i st = none ∧ sm_isc i = true ∧ a < 9000 ∧ ∃ (k : Nat) (as rest : List Value) (d' : Nat) (r1 : Option Value) (h1 : sm_H), sm_call i a b st h = some (k, as, rest) ∧ d = d' + 1 ∧ (sm_al as).length ≤ sm_mxl k ∧ sm_ev n d' k 0 (sm_mk (sm_mxl k) as) [] h = some (r1, h1) ∧ sm_ev n d mi (pc + 3) L (r1.toList ++ rest) h1 = some (r, h')) ∨
      (sm_rt mi i st = none ∧ ¬ (sm_isc i = true ∧ a < 9000) ∧ ∃ (pc' : Nat) (L' st' : List Value) (h1 : sm_H), sm_step i len a b z pc L st h = some (pc', L', st', h1) ∧ sm_ev n d mi pc' L' st' h1 = some (r, h'))) := by
  simp only [sm_ev] at hev
  split at hev
  · cases hev
  · rename_i i len a b z hcd
    refine ⟨i, len, a, b, z, hcd, ?_⟩
    split at hev
    · rename_i r2 hr
      cases hev
      exact Or.inl ⟨hr, rfl⟩
    · rename_i hr
      refine Or.inr ?_
      split at hev
      · rename_i hc
        refine Or.inl ⟨hr, hc.1, hc.2, ?_⟩
        split at hev
        · rename_i k as rest hcall
          split at hev
          · cases hev
          · rename_i d1
            split at hev
            · rename_i hal
              split at hev
              · rename_i r1 h1 he1
                exact ⟨k, as, rest, d1, r1, h1, hcall, rfl, hal, he1, hev⟩
              · cases hev
            · cases hev
        · cases hev
      · rename_i hc
        refine Or.inr ⟨hr, hc, ?_⟩
        split at hev
        · rename_i pc1 L1 st1 h1 hst
          exact ⟨pc1, L1, st1, h1, hst, hev⟩
        · cases hev
theorem sm_ev_pr : ∀ (n d mi pc : Nat) (L st : List Value) (h : sm_H) (r : Option Value) (h' : sm_H), sm_ev n d mi pc L st h = some (r, h') → sm_pr h h'
  | 0, _, _, _, _, _, _, _, _, hev => by cases hev
  | n + 1, d, mi, pc, L, st, h, r, h', hev => by
    obtain ⟨i, len, a, b, z, hcd, hor⟩ := sm_ev_inv hev
    rcases hor with ⟨-, rfl⟩ | ⟨-, -, -, k, as, rest, d', r1, h1, -, -, -, e1, e2⟩ | ⟨-, -, pc', L', st', h1, e1, e2⟩
    · exact sm_pr.rf _
    · exact (sm_ev_pr n _ _ _ _ _ _ _ _ e1).tr (sm_ev_pr n _ _ _ _ _ _ _ _ e2)
    · exact (sm_step_pr e1).tr (sm_ev_pr n _ _ _ _ _ _ _ _ e2)
/-! methods by number -/
set_option maxRecDepth 100000 in
theorem sm_qT : ∀ q ∈ sm_M.take 251, sm_Pq q := sm_qM
theorem sm_qk {k : Nat} (hk : k < 251) : sm_w (.code (sm_y k) (sm_by k) (sm_mxl k) (sm_ret k)) ∧ plainName (sm_y k).cls = true ∧ sm_w (.initialized (sm_y k).cls) ∧ ((sm_y k).cls ≠ "java/lang/invoke/MethodHandle" ∧ (sm_y k).cls ≠ "java/lang/invoke/VarHandle") ∧ sm_c (sm_cls k) = (sm_y k).cls := by
  have hl : sm_M.length = 252 := by decide +kernel
  obtain ⟨qq, hq⟩ : ∃ qq, sm_M[k]? = some qq := ⟨_, List.getElem?_eq_getElem (by omega)⟩
  have hm : qq ∈ sm_M.take 251 := by
    refine List.mem_of_getElem? (i := k) ?_
    rw [List.getElem?_take, if_pos hk]; exact hq
  have h := sm_qT qq hm
  unfold sm_Pq at h
  rw [show sm_y k = qq.1 by unfold sm_y; rw [hq], show sm_by k = qq.2.1 by unfold sm_by; rw [hq], show sm_mxl k = qq.2.2.1 by unfold sm_mxl; rw [hq], show sm_ret k = qq.2.2.2.1 by unfold sm_ret; rw [hq], show sm_cls k = qq.2.2.2.2.1 by unfold sm_cls; rw [hq]]
  exact h
theorem sm_mxl_le {k : Nat} (hk : k < 251) : sm_mxl k ≤ 41 := by
  have : ∀ q ∈ sm_M, q.2.2.1 ≤ 41 := by decide +kernel
  unfold sm_mxl
  split
  · rename_i qq hq
    exact this qq (List.mem_of_getElem? hq)
  · omega
/-! entering a method -/
theorem sm_al_len (G : sm_G) : ∀ as : List Value, (lg_sl (as.map (sm_tr G))).length = (sm_al as).length
  | [] => rfl
  | v :: r => by
    have ih := sm_al_len G r
    cases v <;> simp only [List.map_cons, lg_sl, List.flatMap_cons, sm_tr, Value.category, sm_al, List.length_cons, List.length_append] at ih ⊢ <;> simp [lg_sl] at ih ⊢ <;> omega
theorem sm_al_get (G : sm_G) : ∀ (as : List Value) (k i : Nat) (v : Value), (sm_al as)[i]? = some v → v ≠ .null → (k + i, sm_tr G v) ∈ lv_args k (as.map (sm_tr G))
  | [], _, i, v, h, _ => by simp [sm_al] at h
  | w :: r, k, i, v, h, hn => by
    have ih := sm_al_get G r
    rw [List.map_cons, lv_args, sm_tr_cat]
    cases w with
    | long x =>
      match i with
      | 0 => cases h; exact List.mem_cons_self
      | 1 => cases h; exact absurd rfl hn
      | i + 2 =>
        refine List.mem_cons_of_mem _ ?_
        show _ ∈ lv_args (if (2 : Nat) = 2 then k + 2 else k + 1) _
        rw [if_pos (show (2 : Nat) = 2 from rfl), show k + (i + 2) = k + 2 + i by omega]
        exact ih (k + 2) i v h hn
    | double x =>
      match i with
      | 0 => cases h; exact List.mem_cons_self
      | 1 => cases h; exact absurd rfl hn
      | i + 2 =>
        refine List.mem_cons_of_mem _ ?_
        show _ ∈ lv_args (if (2 : Nat) = 2 then k + 2 else k + 1) _
        rw [if_pos (show (2 : Nat) = 2 from rfl), show k + (i + 2) = k + 2 + i by omega]
        exact ih (k + 2) i v h hn
    | int x =>
      match i with
      | 0 => cases h; exact List.mem_cons_self
      | i + 1 =>
        refine List.mem_cons_of_mem _ ?_
        show _ ∈ lv_args (if (1 : Nat) = 2 then k + 2 else k + 1) _
        rw [if_neg (show ¬ (1 : Nat) = 2 by decide), show k + (i + 1) = k + 1 + i by omega]
        exact ih (k + 1) i v h hn
    | ref x =>
      match i with
      | 0 => cases h; exact List.mem_cons_self
      | i + 1 =>
        refine List.mem_cons_of_mem _ ?_
        show _ ∈ lv_args (if (1 : Nat) = 2 then k + 2 else k + 1) _
        rw [if_neg (show ¬ (1 : Nat) = 2 by decide), show k + (i + 1) = k + 1 + i by omega]
        exact ih (k + 1) i v h hn
    | null =>
      match i with
      | 0 => cases h; exact List.mem_cons_self
      | i + 1 =>
        refine List.mem_cons_of_mem _ ?_
        show _ ∈ lv_args (if (1 : Nat) = 2 then k + 2 else k + 1) _
        rw [if_neg (show ¬ (1 : Nat) = 2 by decide), show k + (i + 1) = k + 1 + i by omega]
        exact ih (k + 1) i v h hn
    | float x =>
      match i with
      | 0 => cases h; exact List.mem_cons_self
      | i + 1 =>
        refine List.mem_cons_of_mem _ ?_
        show _ ∈ lv_args (if (1 : Nat) = 2 then k + 2 else k + 1) _
        rw [if_neg (show ¬ (1 : Nat) = 2 by decide), show k + (i + 1) = k + 1 + i by omega]
        exact ih (k + 1) i v h hn
    | retAddr x =>
      match i with
      | 0 => cases h; exact List.mem_cons_self
      | i + 1 =>
        refine List.mem_cons_of_mem _ ?_
        show _ ∈ lv_args (if (1 : Nat) = 2 then k + 2 else k + 1) _
        rw [if_neg (show ¬ (1 : Nat) = 2 by decide), show k + (i + 1) = k + 1 + i by omega]
        exact ih (k + 1) i v h hn
theorem sm_enter (G : sm_G) {as : List Value} {n : Nat} (h : (sm_al as).length ≤ n) : sm_L G n (sm_mk n as) ((lg_sl (as.map (sm_tr G)) ++ List.replicate (n - (lg_sl (as.map (sm_tr G))).length) Slot.unset).toArray) := by
  have he := lv_entry (as.map (sm_tr G)) (n := n) (by rw [sm_al_len]; exact h)
  refine ⟨he.1, ?_, he.2.1, fun i v hv hn => ?_⟩
  · unfold sm_mk; rw [List.length_append, List.length_replicate]; omega
  · unfold sm_mk at hv
    by_cases hi : i < (sm_al as).length
    · rw [List.getElem?_append_left hi] at hv
      have := sm_al_get G as 0 i v hv hn
      rw [Nat.zero_add] at this
      exact he.2.2 _ this
    · rw [List.getElem?_append_right (by omega), List.getElem?_replicate] at hv
      split at hv
      · cases hv; exact absurd rfl hn
      · cases hv
