/-! what the small machine's data say of the machine's state -/
/-- the heap's size at the law's start, that heap, where the cells 0..25 lie, the classes' numbers and slots, the array classes, the script's length and ints -/
abbrev sm_G : Type := Nat × Heap × (Nat → Nat) × va_G × (Nat → ClassId) × Nat × (Nat → Int32)
abbrev sm_z0 (G : sm_G) : Nat := G.1
abbrev sm_H0 (G : sm_G) : Heap := G.2.1
abbrev sm_ro (G : sm_G) : Nat → Nat := G.2.2.1
abbrev sm_D (G : sm_G) : va_G := G.2.2.2.1
abbrev sm_cA (G : sm_G) : Nat → ClassId := G.2.2.2.2.1
abbrev sm_Ln (G : sm_G) : Nat := G.2.2.2.2.2.1
abbrev sm_xs (G : sm_G) : Nat → Int32 := G.2.2.2.2.2.2
def sm_ad (G : sm_G) (k : Nat) : Nat := if k < 26 then sm_ro G k else sm_z0 G + (k - 26)
def sm_tr (G : sm_G) (v : Value) : Value := match v with
  | .ref k => .ref (sm_ad G k)
  | v => v
theorem sm_tr_cat (G : sm_G) (v : Value) : (sm_tr G v).category = v.category := by cases v <;> rfl
theorem sm_tr_sum (G : sm_G) (l : List Value) : ((l.map (sm_tr G)).map fun v => v.category).sum = (l.map fun v => v.category).sum := by
  rw [List.map_map]
  congr 1
  apply List.map_congr_left
  intro v _
  exact sm_tr_cat G v
def sm_fv (G : sm_G) (h : sm_H) (q c : Nat) (rs : List (Option Nat)) (k : Nat) : Value := if sm_fk c k = 2 then sm_tr G (sm_rv (rs.getD k none)) else .int (h.2.1 q k)
def sm_cell (G : sm_G) (h : sm_H) (q : Nat) (e : Nat × Nat × List (Option Nat)) (H : Heap) : Prop :=
  (e.1 = 0 → e.2.1 < 13 ∧ e.2.2.length = sm_N e.2.1 ∧ t_OB (sm_ad G q) ((sm_D G).1 e.2.1) (sm_N e.2.1) ((sm_D G).2 e.2.1) H (sm_fv G h q e.2.1 e.2.2)) ∧
  (e.1 = 1 → H[sm_ad G q]? = some (arrV (sm_cA G 1) e.2.1 (fun j => .int (h.2.1 q j)))) ∧
  (e.1 = 2 → H[sm_ad G q]? = some (arrV (sm_cA G 2) e.2.1 (fun j => .long (h.2.2 q j)))) ∧
  (e.1 = 3 → (e.2.1 = 6 ∨ e.2.1 = 8) ∧ H[sm_ad G q]? = some (arrV (sm_cA G (10 + e.2.1)) e.2.2.length (fun j => sm_tr G (sm_rv (e.2.2.getD j none)))))
/-- the heap holds the cells -/
def sm_Wd (G : sm_G) (h : sm_H) (H : Heap) : Prop := H.size + 26 = sm_z0 G + h.1.length ∧ 26 ≤ h.1.length ∧ (∀ a : Nat, a < sm_z0 G → H[a]? = (sm_H0 G)[a]?) ∧ ∀ (q : Nat) (e : Nat × Nat × List (Option Nat)), 26 ≤ q → h.1[q]? = some e → e.1 ≤ 3 ∧ sm_cell G h q e H
def sm_rows : List (List Int32) := [[15, 9, 12, 999, 99, 999, 15, 99], [-1, 0, 0, 2, 1, 3, 0, 4], [1, 10, 11, 2, 20, 0, 0, 0, 0, 30, 0, 0, 0, 41, 40, 0, 0, 0, 50, 0, 0, 0, 0, 60, 70, 0, 0, 0, 0, 80, 0, 81]]
def sm_byt : List (List Int32) := [[59], [63], [124], [38], [60, 61, 62], [43, 45], [42, 47, 37], [33, 45, 40], [118, 104, 109, 115, 110, 101], [41], [48, 49, 50, 51, 52, 53, 54, 55, 56, 57]]
def sm_len : List Nat := [1, 1, 1, 1, 3, 2, 3, 3, 6, 1, 10]
def sm_roS (L : Nat) : sm_S := [(1, L, []), (1, 8, []), (1, 8, []), (1, 32, [])] ++ List.replicate 11 (5, 0, []) ++ sm_len.map (fun n => (4, n, []))
def sm_roI (xs : Nat → Int32) (q j : Nat) : Int32 := if q = 0 then xs j else if q < 4 then (sm_rows.getD (q - 1) []).getD j 0 else if q < 15 then 0 else (sm_byt.getD (q - 15) []).getD j 0
def sm_RO (G : sm_G) (h : sm_H) : Prop := (∀ q : Nat, q < 26 → h.1[q]? = (sm_roS (sm_Ln G))[q]?) ∧ ∀ q : Nat, q < 26 → ∀ j : Nat, h.2.1 q j = sm_roI (sm_xs G) q j
def sm_A (G : sm_G) : Nat → Prop := fun q => sm_z0 G ≤ q
/-- what the tables and the cells that nobody writes say, at a state -/
def sm_K (G : sm_G) (U : State) : Prop :=
  (∀ c : Nat, c < 13 → u_Kn U (sm_c c) (sm_T c) (sm_N c) ((sm_D G).1 c) ((sm_D G).2 c)) ∧
  (ArrOfT U (sm_cA G 1) .int ∧ va_RA U (sm_cA G 1) .int) ∧ (ArrOfT U (sm_cA G 2) .long ∧ va_RA U (sm_cA G 2) .long) ∧
  (∀ c : Nat, c = 6 ∨ c = 8 → (ArrOfT U (sm_cA G (10 + c)) (.object (sm_c c)) ∧ va_RA U (sm_cA G (10 + c)) (.object (sm_c c))) ∧ va_AO (sm_c c) U) ∧
  (∀ q ∈ sm_MIN ++ sm_MSN, va_Nw (.methodLinkNest (sm_c q.1) q.2.1 (sm_y q.2.2.1) "DebtSerenade") U) ∧
  (∀ q : Nat, q < 4 → ∃ n : Nat, (sm_roS (sm_Ln G))[q]? = some (1, n, []) ∧ va_T .int (sm_ro G q) n (fun j => .int (sm_roI (sm_xs G) q j)) (sm_A G) U (sm_H0 G)) ∧
  (va_Z "DebtSerenade" "TOPS" "[I" (.ref (sm_ro G 1)) (sm_A G) U (sm_H0 G) ∧ va_Z "DebtSerenade$Tunes" "ABOVE" "[I" (.ref (sm_ro G 2)) (sm_A G) U (sm_H0 G) ∧ va_Z "DebtSerenade$Tunes" "BODIES" "[I" (.ref (sm_ro G 3)) (sm_A G) U (sm_H0 G) ∧ va_Z "java/lang/String" "COMPACT_STRINGS" "Z" (.int 1) (sm_A G) U (sm_H0 G)) ∧
  vk_S 11 sm_len sm_byt (fun i => sm_ro G (4 + i)) (fun i => sm_ro G (15 + i)) (sm_A G) U (sm_H0 G) ∧
  ∀ i : Nat, i < 11 → vk_R (sm_st.getD i ("", 0, "")).1 (sm_st.getD i ("", 0, "")).2.1 (sm_st.getD i ("", 0, "")).2.2 (sm_ro G (4 + i)) U
theorem sm_K.warm {G : sm_G} {s U : State} (hW : s.WarmedH U.vm) (h : sm_K G s) : sm_K G U := by
  obtain ⟨h1, h2, h3, h4, h5, h6, h7, h8, h9⟩ := h
  have ha := hW.alike
  refine ⟨fun c hc => u_Kn_moved ha (h1 c hc), ⟨arrOfT_moved ha h2.1, h2.2.moved ha⟩, ⟨arrOfT_moved ha h3.1, h3.2.moved ha⟩, fun c hc => ⟨⟨arrOfT_moved ha (h4 c hc).1.1, (h4 c hc).1.2.moved ha⟩, (h4 c hc).2.moved ha⟩, fun q hq => (h5 q hq).warmM hW, fun q hq => ?_, ⟨h7.1.moved ha, h7.2.1.moved ha, h7.2.2.1.moved ha, h7.2.2.2.moved ha⟩, h8.moved ha, fun i hi => (h9 i hi).warm hW⟩
  obtain ⟨n, e1, e2⟩ := h6 q hq
  exact ⟨n, e1, e2.moved ha⟩
theorem sm_K.same {G : sm_G} {s U : State} (hv : U.vm = s.vm) (h : sm_K G s) : sm_K G U := by
  obtain ⟨h1, h2, h3, h4, h5, h6, h7, h8, h9⟩ := h
  have ha : s.vm.Alike U.vm := by rw [hv]; exact Vm.Alike.refl _
  refine ⟨fun c hc => u_Kn_moved ha (h1 c hc), ⟨arrOfT_moved ha h2.1, h2.2.moved ha⟩, ⟨arrOfT_moved ha h3.1, h3.2.moved ha⟩, fun c hc => ⟨⟨arrOfT_moved ha (h4 c hc).1.1, (h4 c hc).1.2.moved ha⟩, (h4 c hc).2.moved ha⟩, fun q hq => (h5 q hq).same rfl hv.symm, fun q hq => ?_, ⟨h7.1.moved ha, h7.2.1.moved ha, h7.2.2.1.moved ha, h7.2.2.2.moved ha⟩, h8.moved ha, fun i hi => (h9 i hi).same hv⟩
  obtain ⟨n, e1, e2⟩ := h6 q hq
  exact ⟨n, e1, e2.moved ha⟩
/-! locals -/
def sm_L (G : sm_G) (nL : Nat) (L : List Value) (ls : Array Slot) : Prop := ls.size = nL ∧ L.length = nL ∧ lv_wf ls ∧ ∀ (i : Nat) (v : Value), L[i]? = some v → v ≠ .null → ls[i]? = some (.val (sm_tr G v))
theorem sm_L.get {G : sm_G} {nL : Nat} {L : List Value} {ls : Array Slot} (h : sm_L G nL L ls) {i : Nat} {v : Value} (hv : sm_ld L i = v) (hn : v ≠ .null) : ls[i]? = some (.val (sm_tr G v)) := by
  refine h.2.2.2 i v ?_ hn
  unfold sm_ld at hv
  rw [List.getD_eq_getElem?_getD] at hv
  cases hq : L[i]? with
  | none => rw [hq] at hv; exact absurd hv.symm hn
  | some w => rw [hq] at hv; exact congrArg some hv
def sm_lv (G : sm_G) (L : List Value) : List (Nat × Value) := (List.range L.length).filterMap fun i => match L[i]? with
  | some v => if v = .null then none else some (i, sm_tr G v)
  | none => none
theorem sm_lv_mem {G : sm_G} {L : List Value} {i : Nat} {w : Value} : (i, w) ∈ sm_lv G L ↔ ∃ v, L[i]? = some v ∧ v ≠ .null ∧ w = sm_tr G v := by
  unfold sm_lv
  rw [List.mem_filterMap]
  constructor
  · rintro ⟨j, hj, h⟩
    cases hq : L[j]? with
    | none => rw [hq] at h; cases h
    | some v =>
      rw [hq] at h
      by_cases hv : v = .null
      · simp [hv] at h
      · simp only [hv, if_false] at h
        cases h
        exact ⟨v, hq, hv, rfl⟩
  · rintro ⟨v, hv, hn, rfl⟩
    refine ⟨i, List.mem_range.mpr (List.getElem?_eq_some_iff.mp hv).1, ?_⟩
    rw [hv]
    simp [hn]
theorem sm_L.lv {G : sm_G} {nL : Nat} {L : List Value} {ls : Array Slot} (h : sm_L G nL L ls) : lv_has ls nL (sm_lv G L) := by
  refine ⟨h.1, h.2.2.1, ?_⟩
  rintro ⟨i, w⟩ hq
  obtain ⟨v, hv, hn, rfl⟩ := sm_lv_mem.mp hq
  exact h.2.2.2 i v hv hn
theorem sm_L.of {G : sm_G} {nL k : Nat} {L : List Value} {ls ls' : Array Slot} {v : Value} (h : sm_L G nL L ls) (hk : k < L.length) (hc : sm_cat L k = true)
    (h' : lv_has ls' nL ((k, sm_tr G v) :: (sm_lv G L).filter (fun q => !(q.1 == k) && !(q.1 + 1 == k && q.2.category == 2)))) : sm_L G nL (L.set k v) ls' := by
  refine ⟨h'.1, by rw [List.length_set]; exact h.2.1, h'.2.1, ?_⟩
  intro i w hw hn
  by_cases hik : i = k
  · subst hik
    rw [List.getElem?_set_self hk] at hw
    cases hw
    exact h'.2.2 _ List.mem_cons_self
  · rw [List.getElem?_set_ne (Ne.symm hik)] at hw
    refine h'.2.2 (i, sm_tr G w) (List.mem_cons_of_mem _ (List.mem_filter.mpr ⟨sm_lv_mem.mpr ⟨w, hw, hn, rfl⟩, ?_⟩))
    have h1 : (i == k) = false := by simpa using hik
    have h2 : (i + 1 == k && (sm_tr G w).category == 2) = false := by
      by_cases h3 : i + 1 = k
      · subst h3
        unfold sm_cat at hc
        have h4 : sm_ld L (i + 1 - 1) = w := by
          show L.getD i .null = w
          rw [List.getD_eq_getElem?_getD, hw]; rfl
        rw [h4] at hc
        rw [sm_tr_cat]
        simpa using hc
      · have : (i + 1 == k) = false := by simpa using h3
        rw [this]; rfl
    show (!(i == k) && !(i + 1 == k && (sm_tr G w).category == 2)) = true
    rw [h1, h2]; rfl
