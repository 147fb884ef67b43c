/-! the small machine's rules, as equivalences: for running methods by rewriting -/
theorem sm_ev_ret {n d mi pc : Nat} {L st : List Value} {h : sm_H} {i : Instr} {len a b : Nat} {z : Int} {r : Option Value} (hcd : sm_cd mi pc = some (i, len, a, b, z)) (hrt : sm_rt mi i st = some r) : sm_ev (n + 1) d mi pc L st h = some (r, h) := by
  simp only [sm_ev, hcd, hrt]
theorem sm_ev_step {n d mi pc : Nat} {L st : List Value} {h : sm_H} {i : Instr} {len a b : Nat} {z : Int} (hcd : sm_cd mi pc = some (i, len, a, b, z)) (hrt : sm_rt mi i st = none) (hn : ¬ (sm_isc i = true ∧ a < 9000)) :
    sm_ev (n + 1) d mi pc L st h = (match sm_step i len a b z pc L st h with
      | some (pc', L', st', h') => sm_ev n d mi pc' L' st' h'
      | none => none) := by
  simp only [sm_ev, hcd, hrt]
  rw [if_neg hn]
  rfl
theorem sm_ev_call {n d mi pc : Nat} {L st : List Value} {h : sm_H} {i : Instr} {len a b : Nat} {z : Int} {k : Nat} {as rest : List Value} (hcd : sm_cd mi pc = some (i, len, a, b, z)) (hrt : sm_rt mi i st = none) (hn : sm_isc i = true ∧ a < 9000) (hcall : sm_call i a b st h = some (k, as, rest)) (hal : (sm_al as).length ≤ sm_mxl k) :
    sm_ev (n + 1) (d + 1) mi pc L st h = (match sm_ev n d k 0 (sm_mk (sm_mxl k) as) [] h with
      | some (r, h') => sm_ev n (d + 1) mi (pc + 3) L (r.toList ++ rest) h'
      | none => none) := by
  simp only [sm_ev, hcd, hrt]
  rw [if_pos hn, hcall]
  dsimp only
  rw [if_pos hal]
  rfl
theorem sm_ev_mono1 : ∀ (n d mi pc : Nat) (L st : List Value) (h : sm_H) (r : Option Value) (h' : sm_H), sm_ev n d mi pc L st h = some (r, h') → sm_ev (n + 1) d mi pc L st h = some (r, h')
  | 0, _, _, _, _, _, _, _, _, hev => by cases hev
  | n + 1, d, mi, pc, L, st, h, r, h', hev => by
    obtain ⟨i, len, a, b, z, hcd, hor⟩ := sm_ev_inv hev
    rcases hor with ⟨hrt, rfl⟩ | ⟨hrt, hic, ha, k, as, rest, d', r1, h1, hcall, rfl, hal, e1, e2⟩ | ⟨hrt, hn, pc', L', st', h1, e1, e2⟩
    · exact sm_ev_ret hcd hrt
    · rw [sm_ev_call hcd hrt ⟨hic, ha⟩ hcall hal, sm_ev_mono1 n _ _ _ _ _ _ _ _ e1]
      exact sm_ev_mono1 n _ _ _ _ _ _ _ _ e2
    · rw [sm_ev_step hcd hrt hn, e1]
      exact sm_ev_mono1 n _ _ _ _ _ _ _ _ e2
theorem sm_ev_mono {n d mi pc : Nat} {L st : List Value} {h : sm_H} {r : Option Value} {h' : sm_H} (hev : sm_ev n d mi pc L st h = some (r, h')) : ∀ k : Nat, sm_ev (n + k) d mi pc L st h = some (r, h')
  | 0 => hev
  | k + 1 => sm_ev_mono1 _ _ _ _ _ _ _ _ _ (sm_ev_mono hev k)
section
variable {d mi pc : Nat} {L st : List Value} {h : sm_H} {i : Instr} {len a b : Nat} {z : Int} {K : Option Value → sm_H → Prop}
theorem sm_ok_ret {r : Option Value} (hcd : sm_cd mi pc = some (i, len, a, b, z)) (hrt : sm_rt mi i st = some r) : sm_Ok d mi pc L st h K ↔ K r h := by
  constructor
  · rintro ⟨n, r', h', hev, hK⟩
    cases n with
    | zero => cases hev
    | succ n => rw [sm_ev_ret hcd hrt] at hev; cases hev; exact hK
  · intro hK
    exact ⟨1, r, h, sm_ev_ret hcd hrt, hK⟩
theorem sm_ok_step {pc' : Nat} {L' st' : List Value} {h' : sm_H} (hcd : sm_cd mi pc = some (i, len, a, b, z)) (hrt : sm_rt mi i st = none) (hn : ¬ (sm_isc i = true ∧ a < 9000)) (hs : sm_step i len a b z pc L st h = some (pc', L', st', h')) : sm_Ok d mi pc L st h K ↔ sm_Ok d mi pc' L' st' h' K := by
  constructor
  · rintro ⟨n, r1, h1, hev, hK⟩
    cases n with
    | zero => cases hev
    | succ n => rw [sm_ev_step hcd hrt hn, hs] at hev; exact ⟨n, r1, h1, hev, hK⟩
  · rintro ⟨n, r1, h1, hev, hK⟩
    exact ⟨n + 1, r1, h1, by rw [sm_ev_step hcd hrt hn, hs]; exact hev, hK⟩
theorem sm_ok_none (hcd : sm_cd mi pc = some (i, len, a, b, z)) (hrt : sm_rt mi i st = none) (hn : ¬ (sm_isc i = true ∧ a < 9000)) (hs : sm_step i len a b z pc L st h = none) : ¬ sm_Ok d mi pc L st h K := by
  rintro ⟨n, r1, h1, hev, hK⟩
  cases n with
  | zero => cases hev
  | succ n => rw [sm_ev_step hcd hrt hn, hs] at hev; cases hev
theorem sm_ok_call {k : Nat} {as rest : List Value} (hcd : sm_cd mi pc = some (i, len, a, b, z)) (hrt : sm_rt mi i st = none) (hn : sm_isc i = true ∧ a < 9000) (hcall : sm_call i a b st h = some (k, as, rest)) (hal : (sm_al as).length ≤ sm_mxl k) :
    sm_Ok (d + 1) mi pc L st h K ↔ sm_Ok d k 0 (sm_mk (sm_mxl k) as) [] h (fun r h1 => sm_Ok (d + 1) mi (pc + 3) L (r.toList ++ rest) h1 K) := by
  constructor
  · rintro ⟨n, r1, h1, hev, hK⟩
    cases n with
    | zero => cases hev
    | succ n =>
      rw [sm_ev_call hcd hrt hn hcall hal] at hev
      cases he : sm_ev n d k 0 (sm_mk (sm_mxl k) as) [] h with
      | none => rw [he] at hev; cases hev
      | some q =>
        obtain ⟨r2, h2⟩ := q
        rw [he] at hev
        exact ⟨n, r2, h2, he, n, r1, h1, hev, hK⟩
  · rintro ⟨n, r2, h2, he, n2, r1, h1, hev, hK⟩
    refine ⟨n + n2 + 1, r1, h1, ?_, hK⟩
    rw [sm_ev_call hcd hrt hn hcall hal, sm_ev_mono he n2]
    have := sm_ev_mono hev n
    rw [Nat.add_comm] at this
    exact this
/-- what a run ends in is one thing -/
theorem sm_ok_mono {K2 : Option Value → sm_H → Prop} (hk : sm_Ok d mi pc L st h K) (f : ∀ r h1, K r h1 → K2 r h1) : sm_Ok d mi pc L st h K2 := by
  obtain ⟨n, r, h1, e, k⟩ := hk
  exact ⟨n, r, h1, e, f r h1 k⟩
theorem sm_ok_if {x y : Int32} {c : ClassFile.Cond} {off : Int} {tgt : Nat} (hcd : sm_cd mi pc = some (.if_icmp c off, 3, a, b, z)) (ho : 0 ≤ (pc : Int) + off) (ht : sm_tgt pc off = tgt) (P : Prop) [Decidable P] (hP : sm_cnd c x y = true ↔ P) : sm_Ok d mi pc L (.int y :: .int x :: st) h K ↔ if P then sm_Ok d mi tgt L st h K else sm_Ok d mi (pc + 3) L st h K := by
  subst ht
  by_cases hp : P
  · rw [if_pos hp]
    exact sm_ok_step hcd rfl (fun z => by cases z.1) (by simp only [sm_step]; rw [if_pos ho, if_pos (hP.mpr hp)])
  · rw [if_neg hp]
    exact sm_ok_step hcd rfl (fun z => by cases z.1) (by simp only [sm_step]; rw [if_pos ho, if_neg (fun q => hp (hP.mp q))])
theorem sm_ok_if0 {x : Int32} {c : ClassFile.Cond} {off : Int} {tgt : Nat} (hcd : sm_cd mi pc = some (.ifCond c off, 3, a, b, z)) (ho : 0 ≤ (pc : Int) + off) (ht : sm_tgt pc off = tgt) (P : Prop) [Decidable P] (hP : sm_cnd c x 0 = true ↔ P) : sm_Ok d mi pc L (.int x :: st) h K ↔ if P then sm_Ok d mi tgt L st h K else sm_Ok d mi (pc + 3) L st h K := by
  subst ht
  by_cases hp : P
  · rw [if_pos hp]
    exact sm_ok_step hcd rfl (fun z => by cases z.1) (by simp only [sm_step]; rw [if_pos ho, if_pos (hP.mpr hp)])
  · rw [if_neg hp]
    exact sm_ok_step hcd rfl (fun z => by cases z.1) (by simp only [sm_step]; rw [if_pos ho, if_neg (fun q => hp (hP.mp q))])
theorem sm_ok_goto {off : Int} {tgt : Nat} (hcd : sm_cd mi pc = some (.goto off, 3, a, b, z)) (ho : 0 ≤ (pc : Int) + off) (ht : sm_tgt pc off = tgt) : sm_Ok d mi pc L st h K ↔ sm_Ok d mi tgt L st h K := by
  subst ht
  exact sm_ok_step hcd rfl (fun z => by cases z.1) (by simp only [sm_step]; rw [if_pos ho])
theorem sm_cnd_eq {x y : Int32} : sm_cnd .eq x y = true ↔ x = y := by simp [sm_cnd]
theorem sm_cnd_ne {x y : Int32} : sm_cnd .ne x y = true ↔ ¬ x = y := by simp [sm_cnd]
theorem sm_cnd_lt {x y : Int32} : sm_cnd .lt x y = true ↔ x < y := by simp [sm_cnd]
theorem sm_cnd_ge {x y : Int32} : sm_cnd .ge x y = true ↔ y ≤ x := by simp [sm_cnd]
theorem sm_cnd_gt {x y : Int32} : sm_cnd .gt x y = true ↔ y < x := by simp [sm_cnd]
theorem sm_cnd_le {x y : Int32} : sm_cnd .le x y = true ↔ x ≤ y := by simp [sm_cnd]
theorem sm_ok_div {x y : Int32} (hcd : sm_cd mi pc = some (.idiv, 1, a, b, z)) : sm_Ok d mi pc L (.int y :: .int x :: st) h K ↔ (y ≠ 0 ∧ sm_Ok d mi (pc + 1) L (.int (x / y) :: st) h K) := by
  by_cases hy : y = 0
  · subst hy
    exact ⟨fun hk => absurd hk (sm_ok_none hcd rfl (fun z => by cases z.1) rfl), fun hk => absurd rfl hk.1⟩
  · rw [sm_ok_step hcd rfl (fun z => by cases z.1) (by simp only [sm_step]; rw [if_neg hy])]
    exact ⟨fun hk => ⟨hy, hk⟩, fun hk => hk.2⟩
theorem sm_ok_rem {x y : Int32} (hcd : sm_cd mi pc = some (.irem, 1, a, b, z)) : sm_Ok d mi pc L (.int y :: .int x :: st) h K ↔ (y ≠ 0 ∧ sm_Ok d mi (pc + 1) L (.int (x - x / y * y) :: st) h K) := by
  by_cases hy : y = 0
  · subst hy
    exact ⟨fun hk => absurd hk (sm_ok_none hcd rfl (fun z => by cases z.1) rfl), fun hk => absurd rfl hk.1⟩
  · rw [sm_ok_step hcd rfl (fun z => by cases z.1) (by simp only [sm_step]; rw [if_neg hy])]
    exact ⟨fun hk => ⟨hy, hk⟩, fun hk => hk.2⟩
end
/-! the cells behind the constructors -/
def sm_XX : sm_S := [(0, 11, [some 27, some 31, some 34, some 40, some 44, some 48, some 54, some 59, some 60, some 80, some 84, some 87, some 90]),
  (0, 3, [some 28, some 29, some 30, none]),
  (1, 256, []),
  (1, 6, []),
  (1, 64, []),
  (0, 4, [some 32, none, none, some 33, none, none, none]),
  (1, 256, []),
  (1, 120, []),
  (0, 1, [some 35, some 36, some 37, some 38, some 39, some 27, none, none, none]),
  (1, 8, []),
  (1, 8, []),
  (1, 8, []),
  (1, 12, []),
  (1, 12, []),
  (0, 8, [some 41, some 42, some 43, none]),
  (1, 8, []),
  (1, 8, []),
  (1, 12, []),
  (0, 8, [some 45, some 46, some 47, none]),
  (1, 8, []),
  (1, 8, []),
  (1, 12, []),
  (0, 2, [some 49, some 53, none, none, none]),
  (0, 8, [some 50, some 51, some 52, none]),
  (1, 8, []),
  (1, 8, []),
  (1, 12, []),
  (1, 5, []),
  (0, 0, [some 55, some 56, some 57, some 58, none, none]),
  (1, 40, []),
  (1, 40, []),
  (1, 40, []),
  (1, 40, []),
  (1, 5, []),
  (0, 7, [some 61, none, some 34, some 62, some 63]),
  (1, 4, []),
  (3, 8, [some 64, some 68, some 72, some 76]),
  (1, 4, []),
  (0, 8, [some 65, some 66, some 67, none]),
  (1, 8, []),
  (1, 8, []),
  (1, 12, []),
  (0, 8, [some 69, some 70, some 71, none]),
  (1, 8, []),
  (1, 8, []),
  (1, 12, []),
  (0, 8, [some 73, some 74, some 75, none]),
  (1, 8, []),
  (1, 8, []),
  (1, 12, []),
  (0, 8, [some 77, some 78, some 79, none]),
  (1, 8, []),
  (1, 8, []),
  (1, 12, []),
  (0, 10, [some 81, some 34, some 82, some 83, none]),
  (1, 12, []),
  (1, 12, []),
  (1, 12, []),
  (0, 5, [some 34, some 85, some 86]),
  (1, 256, []),
  (1, 256, []),
  (0, 9, [some 88, none, none, some 89]),
  (1, 24, []),
  (1, 50, []),
  (3, 6, [some 91, some 93, some 95, some 97, some 99, some 101]),
  (0, 6, [some 92, none, none, none]),
  (2, 60, []),
  (0, 6, [some 94, none, none, none]),
  (2, 60, []),
  (0, 6, [some 96, none, none, none]),
  (2, 60, []),
  (0, 6, [some 98, none, none, none]),
  (2, 60, []),
  (0, 6, [some 100, none, none, none]),
  (2, 60, []),
  (0, 6, [some 102, none, none, none]),
  (2, 60, []),
  (0, 12, [some 104, some 105, some 106, some 107, none, none, none, none, some 108, some 109, some 110, none, some 111, none, none, none, none, none, none, some 112, some 113, some 114, some 115, none, none, some 116, none, some 117, some 118, some 119, none, some 120, some 121, none, none, none, some 122, some 123, none, some 124, some 125, none, none, none, some 126, some 127, some 128, some 129]),
  (1, 54, []),
  (1, 40, []),
  (1, 40, []),
  (1, 40, []),
  (1, 12, []),
  (1, 12, []),
  (1, 120, []),
  (1, 120, []),
  (1, 6, []),
  (1, 8, []),
  (1, 8, []),
  (1, 12, []),
  (1, 40, []),
  (1, 256, []),
  (1, 4, []),
  (1, 4, []),
  (1, 12, []),
  (1, 5, []),
  (1, 54, []),
  (1, 5, []),
  (1, 50, []),
  (1, 24, []),
  (1, 6, []),
  (1, 6, []),
  (2, 360, []),
  (2, 60, [])]
def sm_SH (n : Nat) : sm_S := sm_roS n ++ sm_XX
def sm_kc (q : Nat) : Nat × Nat := (((sm_SH 0).getD q (9, 0, [])).1, ((sm_SH 0).getD q (9, 0, [])).2.1)
def sm_rf (q b : Nat) : Nat := ((((sm_SH 0).getD q (9, 0, [])).2.2).getD b none).getD 0
theorem sm_SH_at {n q k c : Nat} (h : sm_kc q = (k, c)) (hk : k ≠ 9) (hq : q ≠ 0) : ∃ rs, (sm_SH n)[q]? = some (k, c, rs) ∧ rs = ((sm_SH 0).getD q (9, 0, [])).2.2 := by
  have e : (sm_SH n)[q]? = (sm_SH 0)[q]? := by
    match q, hq with
    | q + 1, _ => rfl
  rw [e]
  unfold sm_kc at h
  rw [List.getD_eq_getElem?_getD] at h ⊢
  cases hs : (sm_SH 0)[q]? with
  | none => rw [hs] at h; exact absurd (congrArg Prod.fst h).symm hk
  | some x =>
    rw [hs] at h
    obtain ⟨a, b, rs⟩ := x
    cases h
    exact ⟨rs, rfl, rfl⟩
/-- every reference field is set, of every object -/
def sm_rfb (q : Nat) : Bool := !((sm_kc q).1 == 0) || (((sm_SH 0).getD q (9, 0, [])).2.2.length == sm_N (sm_kc q).2 && (List.range (sm_N (sm_kc q).2)).all fun b => !(sm_fk (sm_kc q).2 b == 2) || ((((sm_SH 0).getD q (9, 0, [])).2.2)[b]? == some (some (sm_rf q b))))
theorem sm_rfB : (List.range 130).all sm_rfb = true := by decide +kernel
theorem sm_rf_ok (q : Nat) (hq : q < 130) (h0 : (sm_kc q).1 = 0) : ((sm_SH 0).getD q (9, 0, [])).2.2.length = sm_N (sm_kc q).2 ∧ ∀ b : Nat, b < sm_N (sm_kc q).2 → sm_fk (sm_kc q).2 b = 2 → (((sm_SH 0).getD q (9, 0, [])).2.2)[b]? = some (some (sm_rf q b)) := by
  have h := List.all_eq_true.mp sm_rfB q (List.mem_range.mpr hq)
  unfold sm_rfb at h
  rw [h0] at h
  simp only [beq_self_eq_true, Bool.not_true, Bool.false_or, Bool.and_eq_true, beq_iff_eq] at h
  refine ⟨h.1, fun b hb hf => ?_⟩
  have h2 := List.all_eq_true.mp h.2 b (List.mem_range.mpr hb)
  rw [hf] at h2
  simpa using h2
theorem sm_q_lt {q k c : Nat} (h : sm_kc q = (k, c)) (hk : k ≠ 9) : q < 130 := by
  rcases Nat.lt_or_ge q 130 with z | z
  · exact z
  · exfalso
    have hl : (sm_SH 0).length = 130 := by decide +kernel
    unfold sm_kc at h
    rw [List.getD_eq_getElem?_getD, List.getElem?_eq_none (Nat.le_trans (Nat.le_of_eq hl) z)] at h
    exact hk (congrArg Prod.fst h).symm
theorem sm_hi26 {q k c : Nat} (h : sm_kc q = (k, c)) (hk : k = 0 ∨ k = 2 ∨ k = 3) : 26 ≤ q := by
  rcases Nat.lt_or_ge q 26 with z | z
  · exfalso
    have : ∀ q : Nat, q < 26 → (sm_kc q).1 ≠ 0 ∧ (sm_kc q).1 ≠ 2 ∧ (sm_kc q).1 ≠ 3 := by decide
    have h2 := this q z
    rw [h] at h2
    rcases hk with rfl | rfl | rfl
    · exact h2.1 rfl
    · exact h2.2.1 rfl
    · exact h2.2.2 rfl
  · exact z
section
variable {d mi pc : Nat} {L st : List Value} {i : Instr} {len a b : Nat} {z : Int} {K : Option Value → sm_H → Prop} {n : Nat} {I : sm_I} {J : sm_J}
theorem sm_ok_getI {ix q : Nat} (hcd : sm_cd mi pc = some (.getfield ix, 3, a, b, z)) (hf : sm_fk a b ≠ 2) (hb : b < sm_N a) (hq : sm_kc q = (0, a)) : sm_Ok d mi pc L (.ref q :: st) (sm_SH n, I, J) K ↔ sm_Ok d mi (pc + 3) L (.int (I q b) :: st) (sm_SH n, I, J) K := by
  have h26 := sm_hi26 hq (Or.inl rfl)
  obtain ⟨rs, hs, -⟩ := sm_SH_at (n := n) hq (by decide) (by omega)
  refine sm_ok_step hcd rfl (fun z => by cases z.1) ?_
  simp only [sm_step, hs]
  rw [if_pos ⟨trivial, trivial, h26, hb⟩, if_neg hf]
theorem sm_ok_getR {ix q : Nat} (hcd : sm_cd mi pc = some (.getfield ix, 3, a, b, z)) (hf : sm_fk a b = 2) (hb : b < sm_N a) (hq : sm_kc q = (0, a)) : sm_Ok d mi pc L (.ref q :: st) (sm_SH n, I, J) K ↔ sm_Ok d mi (pc + 3) L (.ref (sm_rf q b) :: st) (sm_SH n, I, J) K := by
  have h26 := sm_hi26 hq (Or.inl rfl)
  have hlt := sm_q_lt hq (by decide)
  obtain ⟨rs, hs, hr⟩ := sm_SH_at (n := n) hq (by decide) (by omega)
  have hok := (sm_rf_ok q hlt (by rw [hq])).2 b (by rw [hq]; exact hb) (by rw [hq]; exact hf)
  rw [← hr] at hok
  refine sm_ok_step hcd rfl (fun z => by cases z.1) ?_
  simp only [sm_step, hs]
  rw [if_pos ⟨trivial, trivial, h26, hb⟩, if_pos hf, hok]
  rfl
theorem sm_ok_putI {ix q : Nat} {x : Int32} (hcd : sm_cd mi pc = some (.putfield ix, 3, a, b, z)) (hf : sm_fk a b = 0) (hb : b < sm_N a) (hq : sm_kc q = (0, a)) : sm_Ok d mi pc L (.int x :: .ref q :: st) (sm_SH n, I, J) K ↔ sm_Ok d mi (pc + 3) L st (sm_SH n, sm_uI I q b x, J) K := by
  have h26 := sm_hi26 hq (Or.inl rfl)
  have hlt := sm_q_lt hq (by decide)
  obtain ⟨rs, hs, hr⟩ := sm_SH_at (n := n) hq (by decide) (by omega)
  have hl := (sm_rf_ok q hlt (by rw [hq])).1
  rw [← hr, hq] at hl
  refine sm_ok_step hcd rfl (fun z => by cases z.1) ?_
  simp only [sm_step, hs]
  rw [if_pos ⟨trivial, trivial, h26, hb, hl⟩, if_pos (Or.inl hf)]
theorem sm_ok_putZ {ix q : Nat} {x : Int32} (hcd : sm_cd mi pc = some (.putfield ix, 3, a, b, z)) (hf : sm_fk a b = 1) (hb : b < sm_N a) (hq : sm_kc q = (0, a)) : sm_Ok d mi pc L (.int x :: .ref q :: st) (sm_SH n, I, J) K ↔ ((x = 0 ∨ x = 1) ∧ sm_Ok d mi (pc + 3) L st (sm_SH n, sm_uI I q b x, J) K) := by
  have h26 := sm_hi26 hq (Or.inl rfl)
  have hlt := sm_q_lt hq (by decide)
  obtain ⟨rs, hs, hr⟩ := sm_SH_at (n := n) hq (by decide) (by omega)
  have hl := (sm_rf_ok q hlt (by rw [hq])).1
  rw [← hr, hq] at hl
  by_cases hx : x = 0 ∨ x = 1
  · rw [sm_ok_step (pc' := pc + 3) (L' := L) (st' := st) (h' := (sm_SH n, sm_uI I q b x, J)) hcd rfl (fun z => by cases z.1) (by
      simp only [sm_step, hs]
      rw [if_pos ⟨trivial, trivial, h26, hb, hl⟩, if_pos (Or.inr ⟨hf, hx⟩)])]
    exact ⟨fun hk => ⟨hx, hk⟩, fun hk => hk.2⟩
  · refine ⟨fun hk => absurd hk (sm_ok_none hcd rfl (fun z => by cases z.1) ?_), fun hk => absurd hk.1 hx⟩
    simp only [sm_step, hs]
    rw [if_pos ⟨trivial, trivial, h26, hb, hl⟩, if_neg (fun q => q.elim (fun q => by rw [hf] at q; cases q) (fun q => hx q.2))]
theorem sm_ok_iald {q c : Nat} {x : Int32} (hcd : sm_cd mi pc = some (.iaload, 1, a, b, z)) (hq : sm_kc q = (1, c)) (h0 : q ≠ 0) : sm_Ok d mi pc L (.int x :: .ref q :: st) (sm_SH n, I, J) K ↔ (sm_in x c = true ∧ sm_Ok d mi (pc + 1) L (.int (I q x.toNatClampNeg) :: st) (sm_SH n, I, J) K) := by
  obtain ⟨rs, hs, -⟩ := sm_SH_at (n := n) hq (by decide) h0
  by_cases hx : sm_in x c = true
  · rw [sm_ok_step (pc' := pc + 1) (L' := L) (st' := .int (I q x.toNatClampNeg) :: st) (h' := (sm_SH n, I, J)) hcd rfl (fun z => by cases z.1) (by simp only [sm_step, hs]; rw [if_pos ⟨trivial, hx⟩])]
    exact ⟨fun hk => ⟨hx, hk⟩, fun hk => hk.2⟩
  · exact ⟨fun hk => absurd hk (sm_ok_none hcd rfl (fun z => by cases z.1) (by simp only [sm_step, hs]; rw [if_neg (fun z => hx z.2)])), fun hk => absurd hk.1 hx⟩
theorem sm_ok_iald0 {x : Int32} (hcd : sm_cd mi pc = some (.iaload, 1, a, b, z)) : sm_Ok d mi pc L (.int x :: .ref 0 :: st) (sm_SH n, I, J) K ↔ (sm_in x n = true ∧ sm_Ok d mi (pc + 1) L (.int (I 0 x.toNatClampNeg) :: st) (sm_SH n, I, J) K) := by
  have hs : (sm_SH n)[0]? = some (1, n, []) := rfl
  by_cases hx : sm_in x n = true
  · rw [sm_ok_step (pc' := pc + 1) (L' := L) (st' := .int (I 0 x.toNatClampNeg) :: st) (h' := (sm_SH n, I, J)) hcd rfl (fun z => by cases z.1) (by simp only [sm_step, hs]; rw [if_pos ⟨trivial, hx⟩])]
    exact ⟨fun hk => ⟨hx, hk⟩, fun hk => hk.2⟩
  · exact ⟨fun hk => absurd hk (sm_ok_none hcd rfl (fun z => by cases z.1) (by simp only [sm_step, hs]; rw [if_neg (fun z => hx z.2)])), fun hk => absurd hk.1 hx⟩
theorem sm_ok_bald {q c : Nat} {x : Int32} (hcd : sm_cd mi pc = some (.baload, 1, a, b, z)) (hq : sm_kc q = (4, c)) (h0 : q ≠ 0) : sm_Ok d mi pc L (.int x :: .ref q :: st) (sm_SH n, I, J) K ↔ (sm_in x c = true ∧ sm_Ok d mi (pc + 1) L (.int (I q x.toNatClampNeg) :: st) (sm_SH n, I, J) K) := by
  obtain ⟨rs, hs, -⟩ := sm_SH_at (n := n) hq (by decide) h0
  by_cases hx : sm_in x c = true
  · rw [sm_ok_step (pc' := pc + 1) (L' := L) (st' := .int (I q x.toNatClampNeg) :: st) (h' := (sm_SH n, I, J)) hcd rfl (fun z => by cases z.1) (by simp only [sm_step, hs]; rw [if_pos ⟨trivial, hx⟩])]
    exact ⟨fun hk => ⟨hx, hk⟩, fun hk => hk.2⟩
  · exact ⟨fun hk => absurd hk (sm_ok_none hcd rfl (fun z => by cases z.1) (by simp only [sm_step, hs]; rw [if_neg (fun z => hx z.2)])), fun hk => absurd hk.1 hx⟩
theorem sm_ok_lald {q c : Nat} {x : Int32} (hcd : sm_cd mi pc = some (.laload, 1, a, b, z)) (hq : sm_kc q = (2, c)) : sm_Ok d mi pc L (.int x :: .ref q :: st) (sm_SH n, I, J) K ↔ (sm_in x c = true ∧ sm_Ok d mi (pc + 1) L (.long (J q x.toNatClampNeg) :: st) (sm_SH n, I, J) K) := by
  have h26 := sm_hi26 hq (Or.inr (Or.inl rfl))
  obtain ⟨rs, hs, -⟩ := sm_SH_at (n := n) hq (by decide) (by omega)
  by_cases hx : sm_in x c = true
  · rw [sm_ok_step (pc' := pc + 1) (L' := L) (st' := .long (J q x.toNatClampNeg) :: st) (h' := (sm_SH n, I, J)) hcd rfl (fun z => by cases z.1) (by simp only [sm_step, hs]; rw [if_pos ⟨trivial, hx⟩])]
    exact ⟨fun hk => ⟨hx, hk⟩, fun hk => hk.2⟩
  · exact ⟨fun hk => absurd hk (sm_ok_none hcd rfl (fun z => by cases z.1) (by simp only [sm_step, hs]; rw [if_neg (fun z => hx z.2)])), fun hk => absurd hk.1 hx⟩
theorem sm_ok_iast {q c : Nat} {x v : Int32} (hcd : sm_cd mi pc = some (.iastore, 1, a, b, z)) (hq : sm_kc q = (1, c)) (h26 : 26 ≤ q) : sm_Ok d mi pc L (.int v :: .int x :: .ref q :: st) (sm_SH n, I, J) K ↔ (sm_in x c = true ∧ sm_Ok d mi (pc + 1) L st (sm_SH n, sm_uI I q x.toNatClampNeg v, J) K) := by
  obtain ⟨rs, hs, -⟩ := sm_SH_at (n := n) hq (by decide) (by omega)
  by_cases hx : sm_in x c = true
  · rw [sm_ok_step (pc' := pc + 1) (L' := L) (st' := st) (h' := (sm_SH n, sm_uI I q x.toNatClampNeg v, J)) hcd rfl (fun z => by cases z.1) (by simp only [sm_step, hs]; rw [if_pos ⟨trivial, hx, h26⟩])]
    exact ⟨fun hk => ⟨hx, hk⟩, fun hk => hk.2⟩
  · exact ⟨fun hk => absurd hk (sm_ok_none hcd rfl (fun z => by cases z.1) (by simp only [sm_step, hs]; rw [if_neg (fun z => hx z.2.1)])), fun hk => absurd hk.1 hx⟩
theorem sm_ok_last {q c : Nat} {x : Int32} {v : Int64} (hcd : sm_cd mi pc = some (.lastore, 1, a, b, z)) (hq : sm_kc q = (2, c)) : sm_Ok d mi pc L (.long v :: .int x :: .ref q :: st) (sm_SH n, I, J) K ↔ (sm_in x c = true ∧ sm_Ok d mi (pc + 1) L st (sm_SH n, I, sm_uJ J q x.toNatClampNeg v) K) := by
  have h26 := sm_hi26 hq (Or.inr (Or.inl rfl))
  obtain ⟨rs, hs, -⟩ := sm_SH_at (n := n) hq (by decide) (by omega)
  by_cases hx : sm_in x c = true
  · rw [sm_ok_step (pc' := pc + 1) (L' := L) (st' := st) (h' := (sm_SH n, I, sm_uJ J q x.toNatClampNeg v)) hcd rfl (fun z => by cases z.1) (by simp only [sm_step, hs]; rw [if_pos ⟨trivial, hx, h26⟩])]
    exact ⟨fun hk => ⟨hx, hk⟩, fun hk => hk.2⟩
  · exact ⟨fun hk => absurd hk (sm_ok_none hcd rfl (fun z => by cases z.1) (by simp only [sm_step, hs]; rw [if_neg (fun z => hx z.2.1)])), fun hk => absurd hk.1 hx⟩
theorem sm_ok_alen {q k c : Nat} {v : Int32} (hcd : sm_cd mi pc = some (.arraylength, 1, a, b, z)) (hq : sm_kc q = (k, c)) (hk : k = 1 ∨ k = 2 ∨ k = 4) (h0 : q ≠ 0) (hv : Int32.ofNat c = v) : sm_Ok d mi pc L (.ref q :: st) (sm_SH n, I, J) K ↔ sm_Ok d mi (pc + 1) L (.int v :: st) (sm_SH n, I, J) K := by
  subst hv
  obtain ⟨rs, hs, -⟩ := sm_SH_at (n := n) hq (by omega) h0
  refine sm_ok_step hcd rfl (fun z => by cases z.1) ?_
  simp only [sm_step, hs]
  rw [if_pos hk]
theorem sm_ok_alen0 (hcd : sm_cd mi pc = some (.arraylength, 1, a, b, z)) : sm_Ok d mi pc L (.ref 0 :: st) (sm_SH n, I, J) K ↔ sm_Ok d mi (pc + 1) L (.int (Int32.ofNat n) :: st) (sm_SH n, I, J) K := by
  have hs : (sm_SH n)[0]? = some (1, n, []) := rfl
  refine sm_ok_step hcd rfl (fun z => by cases z.1) ?_
  simp only [sm_step, hs]
  rw [if_pos (Or.inl trivial)]
/-- the six shelves, and the four nights -/
theorem sm_ok_aaldS {x : Int32} (hcd : sm_cd mi pc = some (.aaload, 1, a, b, z)) : sm_Ok d mi pc L (.int x :: .ref 90 :: st) (sm_SH n, I, J) K ↔ (sm_in x 6 = true ∧ sm_Ok d mi (pc + 1) L (.ref (91 + 2 * x.toNatClampNeg) :: st) (sm_SH n, I, J) K) := by
  have hs : (sm_SH n)[90]? = some (3, 6, [some 91, some 93, some 95, some 97, some 99, some 101]) := rfl
  by_cases hx : sm_in x 6 = true
  · have hl := (sm_in_of hx).2
    have e : ∀ j : Nat, j < 6 → sm_rv (([some 91, some 93, some 95, some 97, some 99, some 101] : List (Option Nat)).getD j none) = .ref (91 + 2 * j) := by
      intro j hj
      rcases (show j = 0 ∨ j = 1 ∨ j = 2 ∨ j = 3 ∨ j = 4 ∨ j = 5 by omega) with rfl | rfl | rfl | rfl | rfl | rfl <;> rfl
    rw [sm_ok_step (pc' := pc + 1) (L' := L) (st' := .ref (91 + 2 * x.toNatClampNeg) :: st) (h' := (sm_SH n, I, J)) hcd rfl (fun z => by cases z.1) (by simp only [sm_step, hs]; rw [if_pos ⟨trivial, hx⟩, e _ hl])]
    exact ⟨fun hk => ⟨hx, hk⟩, fun hk => hk.2⟩
  · exact ⟨fun hk => absurd hk (sm_ok_none hcd rfl (fun z => by cases z.1) (by simp only [sm_step, hs]; rw [if_neg (fun z => hx z.2)])), fun hk => absurd hk.1 hx⟩
theorem sm_ok_aaldN {x : Int32} (hcd : sm_cd mi pc = some (.aaload, 1, a, b, z)) : sm_Ok d mi pc L (.int x :: .ref 62 :: st) (sm_SH n, I, J) K ↔ (sm_in x 4 = true ∧ sm_Ok d mi (pc + 1) L (.ref (64 + 4 * x.toNatClampNeg) :: st) (sm_SH n, I, J) K) := by
  have hs : (sm_SH n)[62]? = some (3, 8, [some 64, some 68, some 72, some 76]) := rfl
  by_cases hx : sm_in x 4 = true
  · have hl := (sm_in_of hx).2
    have e : ∀ j : Nat, j < 4 → sm_rv (([some 64, some 68, some 72, some 76] : List (Option Nat)).getD j none) = .ref (64 + 4 * j) := by
      intro j hj
      rcases (show j = 0 ∨ j = 1 ∨ j = 2 ∨ j = 3 by omega) with rfl | rfl | rfl | rfl <;> rfl
    rw [sm_ok_step (pc' := pc + 1) (L' := L) (st' := .ref (64 + 4 * x.toNatClampNeg) :: st) (h' := (sm_SH n, I, J)) hcd rfl (fun z => by cases z.1) (by simp only [sm_step, hs]; rw [if_pos ⟨trivial, hx⟩, e _ hl])]
    exact ⟨fun hk => ⟨hx, hk⟩, fun hk => hk.2⟩
  · exact ⟨fun hk => absurd hk (sm_ok_none hcd rfl (fun z => by cases z.1) (by simp only [sm_step, hs]; rw [if_neg (fun z => hx z.2)])), fun hk => absurd hk.1 hx⟩
theorem sm_ok_copyI {ix s t c1 c2 : Nat} {sp dp m : Int32} (hcd : sm_cd mi pc = some (.invokestatic ix, 3, 9998, b, z)) (hs : sm_kc s = (1, c1)) (ht : sm_kc t = (1, c2)) (hs26 : 26 ≤ s) (ht26 : 26 ≤ t) (hst : st = []) : sm_Ok d mi pc L (.int m :: .int dp :: .ref t :: .int sp :: .ref s :: st) (sm_SH n, I, J) K ↔ ((¬ sp < 0 ∧ ¬ dp < 0 ∧ ¬ m < 0 ∧ sp.toNatClampNeg + m.toNatClampNeg ≤ c1 ∧ dp.toNatClampNeg + m.toNatClampNeg ≤ c2) ∧ sm_Ok d mi (pc + 3) L st (sm_SH n, sm_cI I s t sp.toNatClampNeg dp.toNatClampNeg m.toNatClampNeg, J) K) := by
  subst hst
  obtain ⟨rs1, h1, -⟩ := sm_SH_at (n := n) hs (by decide) (by omega)
  obtain ⟨rs2, h2, -⟩ := sm_SH_at (n := n) ht (by decide) (by omega)
  by_cases hx : ¬ sp < 0 ∧ ¬ dp < 0 ∧ ¬ m < 0 ∧ sp.toNatClampNeg + m.toNatClampNeg ≤ c1 ∧ dp.toNatClampNeg + m.toNatClampNeg ≤ c2
  · rw [sm_ok_step (pc' := pc + 3) (L' := L) (st' := []) (h' := (sm_SH n, sm_cI I s t sp.toNatClampNeg dp.toNatClampNeg m.toNatClampNeg, J)) hcd rfl (fun z => absurd z.2 (by decide)) (by
      simp only [sm_step, h1, h2]
      rw [if_pos trivial, if_pos ⟨Or.inl trivial, trivial, hx.1, hx.2.1, hx.2.2.1, hx.2.2.2.1, hx.2.2.2.2, ht26, hs26, by decide⟩, if_pos trivial])]
    exact ⟨fun hk => ⟨hx, hk⟩, fun hk => hk.2⟩
  · refine ⟨fun hk => absurd hk (sm_ok_none hcd rfl (fun z => absurd z.2 (by decide)) ?_), fun hk => absurd hk.1 hx⟩
    simp only [sm_step, h1, h2]
    rw [if_pos trivial, if_neg (fun q => hx ⟨q.2.2.1, q.2.2.2.1, q.2.2.2.2.1, q.2.2.2.2.2.1, q.2.2.2.2.2.2.1⟩)]
theorem sm_ok_copyJ {ix s t c1 c2 : Nat} {sp dp m : Int32} (hcd : sm_cd mi pc = some (.invokestatic ix, 3, 9998, b, z)) (hs : sm_kc s = (2, c1)) (ht : sm_kc t = (2, c2)) (hst : st = []) : sm_Ok d mi pc L (.int m :: .int dp :: .ref t :: .int sp :: .ref s :: st) (sm_SH n, I, J) K ↔ ((¬ sp < 0 ∧ ¬ dp < 0 ∧ ¬ m < 0 ∧ sp.toNatClampNeg + m.toNatClampNeg ≤ c1 ∧ dp.toNatClampNeg + m.toNatClampNeg ≤ c2) ∧ sm_Ok d mi (pc + 3) L st (sm_SH n, I, sm_cJ J s t sp.toNatClampNeg dp.toNatClampNeg m.toNatClampNeg) K) := by
  subst hst
  have hs26 := sm_hi26 hs (Or.inr (Or.inl rfl))
  have ht26 := sm_hi26 ht (Or.inr (Or.inl rfl))
  obtain ⟨rs1, h1, -⟩ := sm_SH_at (n := n) hs (by decide) (by omega)
  obtain ⟨rs2, h2, -⟩ := sm_SH_at (n := n) ht (by decide) (by omega)
  by_cases hx : ¬ sp < 0 ∧ ¬ dp < 0 ∧ ¬ m < 0 ∧ sp.toNatClampNeg + m.toNatClampNeg ≤ c1 ∧ dp.toNatClampNeg + m.toNatClampNeg ≤ c2
  · rw [sm_ok_step (pc' := pc + 3) (L' := L) (st' := []) (h' := (sm_SH n, I, sm_cJ J s t sp.toNatClampNeg dp.toNatClampNeg m.toNatClampNeg)) hcd rfl (fun z => absurd z.2 (by decide)) (by
      simp only [sm_step, h1, h2]
      rw [if_pos trivial, if_pos ⟨Or.inr trivial, trivial, hx.1, hx.2.1, hx.2.2.1, hx.2.2.2.1, hx.2.2.2.2, ht26, hs26, by decide⟩, if_neg (by decide)])]
    exact ⟨fun hk => ⟨hx, hk⟩, fun hk => hk.2⟩
  · refine ⟨fun hk => absurd hk (sm_ok_none hcd rfl (fun z => absurd z.2 (by decide)) ?_), fun hk => absurd hk.1 hx⟩
    simp only [sm_step, h1, h2]
    rw [if_pos trivial, if_neg (fun q => hx ⟨q.2.2.1, q.2.2.2.1, q.2.2.2.2.1, q.2.2.2.2.2.1, q.2.2.2.2.2.2.1⟩)]
end
