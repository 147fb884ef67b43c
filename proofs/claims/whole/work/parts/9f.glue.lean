/-! the other pairs, with the invariant; what is not written stays -/
theorem ok_pr {d m pc n : Nat} {L st : List Value} {I : sm_I} {J : sm_J} {K : Option Value → sm_H → Prop} (h : sm_Ok d m pc L st (sm_SH n, I, J) (fun r h1 => (∀ q j, q < 26 → h1.2.1 q j = I q j) → K r h1)) : sm_Ok d m pc L st (sm_SH n, I, J) K := by
  obtain ⟨k, r, h', e, hk⟩ := h
  have hlen : 26 ≤ (sm_SH n).length := by
    have e1 : (sm_SH n).length = 130 := rfl
    rw [e1]
    decide
  exact ⟨k, r, h', e, hk (fun q j hq => ((sm_ev_pr _ _ _ _ _ _ _ _ _ e).2 hlen q hq).2 j)⟩
theorem pw_mono {n : Nat} {I : sm_I} {J : sm_J} {cm : Nat} {ca : List Value} {mm : Nat} {ma : List Value} {Q Q' : sm_I → sm_J → Prop} (hQ : ∀ I2 J2, Q I2 J2 → Q' I2 J2) (h : pw n I J cm ca mm ma Q) : pw n I J cm ca mm ma Q' := fun d K hK => h d K (fun v I1 J1 h1 => hK v I1 J1 (fun K2 h2 => h1 K2 (fun I2 J2 hq => h2 I2 J2 (hQ I2 J2 hq))))
theorem sm_ret_long : ∀ (n d mi pc : Nat) (L st : List Value) (h : sm_H) (r : Option Value) (h' : sm_H), sm_ret mi = some .long → sm_ev n d mi pc L st h = some (r, h') → ∃ v, r = some (.long v)
  | 0, _, _, _, _, _, _, _, _, _, hev => by cases hev
  | n + 1, d, mi, pc, L, st, h, r, h', hm, hev => by
    obtain ⟨i, len, a, b, z, hcd, hor⟩ := sm_ev_inv hev
    rcases hor with ⟨hrt, rfl⟩ | ⟨hrt, hic, ha, k, as, rest, d', r1, h1, hcall, rfl, hal, e1, e2⟩ | ⟨hrt, hn, pc', L', st', h1, e1, e2⟩
    · unfold sm_rt at hrt
      split at hrt
      · rw [hm] at hrt
        dsimp only at hrt
        rw [if_neg (fun z => absurd z.2 (by decide))] at hrt
        cases hrt
      · rw [if_pos hm] at hrt
        cases hrt
        exact ⟨_, rfl⟩
      · rw [hm] at hrt
        rw [if_neg (by decide)] at hrt
        cases hrt
      · rw [hm] at hrt
        rw [if_neg (by decide)] at hrt
        cases hrt
      · cases hrt
    · exact sm_ret_long n _ _ _ _ _ _ _ _ hm e2
    · exact sm_ret_long n _ _ _ _ _ _ _ _ hm e2
section
variable {xs : Nat → Int32} {n : Nat} {I : sm_I} {J : sm_J}
theorem ag_e {g : Nat} {I I' : sm_I} (h : ag g I I') : ∀ k, k ≠ 0 → k ≠ g → ∀ q b, rg q b = k → I' q b = I q b := fun k h0 hg q b hr => h q b (by rw [hr]; exact h0) (by rw [hr]; exact hg)
theorem pi_count (hI : Inv xs I J) (w : Int32) : pw n I J 125 [.ref 26, .int w] 239 [.ref 103, .int w] (fun I2 J2 => Inv xs I2 J2) := by
  obtain ⟨P, D, B, i1, i2, i3, i4, i5, i6, i7, i8⟩ := id hI
  exact pw_mono (fun I2 J2 h => by rw [h.1, h.2]; exact hI) (pr_pw rfl (pr_count i2 i3 i4 i7 w))
theorem pi_trace (hI : Inv xs I J) (x : Int32) : pw n I J 118 [.ref 26, .int x] 229 [.ref 103, .int x] (fun I2 J2 => Inv xs I2 J2) := by
  obtain ⟨P, D, B, i1, i2, i3, i4, i5, i6, i7, i8⟩ := id hI
  exact pw_mono (fun I2 J2 h => by rw [h.1, h.2]; exact hI) (pr_pw rfl (pr_trace i7 x))
theorem pi_taken (hI : Inv xs I J) (x t : Int32) : pw n I J 124 [.ref 26, .int x, .int t, .null] 238 [.ref 103, .int x, .int t, .null] (fun I2 J2 => Inv xs I2 J2) := by
  obtain ⟨P, D, B, i1, i2, i3, i4, i5, i6, i7, i8⟩ := id hI
  exact pw_mono (fun I2 J2 h => by rw [h.1, h.2]; exact hI) (pr_pw rfl (pr_taken i1 i7 i8 x t))
theorem pi_body (hI : Inv xs I J) (k : Int32) : pw n I J 116 [.ref 26, .int k] 221 [.ref 103, .int k] (fun I2 J2 => Inv xs I2 J2) := by
  obtain ⟨P, D, B, i1, i2, i3, i4, i5, i6, i7, i8⟩ := id hI
  refine pw_mono (fun I2 J2 h => ?_) (pr_pw rfl (pr_body i7 k))
  obtain ⟨ha, rfl, B2, hB, h7⟩ := h
  have e := ag_e ha
  exact ⟨P, D, B2, iv_ro_g i1 (e 1 (by decide) (by decide)), iv_fo_g i2 (e 2 (by decide) (by decide)), iv_ch_g i3 (Nat.le_refl _) (e 3 (by decide) (by decide)), iv_ta_f i4 (e 4 (by decide) (by decide)), iv_la_f i5 (e 5 (by decide) (by decide)), iv_im_g i6 (Nat.le_refl _) (Nat.le_refl _) (e 6 (by decide) (by decide)), h7, iv_sh_g i8 hB (e 8 (by decide) (by decide)) (fun _ _ _ => rfl)⟩
theorem pi_act (hI : Inv xs I J) (b a x : Int32) : pw n I J 117 [.ref 26, .int b, .int a, .int x] 228 [.ref 103, .int b, .int a, .int x] (fun I2 J2 => Inv xs I2 J2) := by
  obtain ⟨P, D, B, i1, i2, i3, i4, i5, i6, i7, i8⟩ := id hI
  refine pw_mono (fun I2 J2 h => ?_) (pr_pw rfl (pr_act i1 i7 b a x))
  obtain ⟨ha, rfl, h7⟩ := h
  have e := ag_e ha
  exact ⟨P, D, B, iv_ro_g i1 (e 1 (by decide) (by decide)), iv_fo_g i2 (e 2 (by decide) (by decide)), iv_ch_g i3 (Nat.le_refl _) (e 3 (by decide) (by decide)), iv_ta_f i4 (e 4 (by decide) (by decide)), iv_la_f i5 (e 5 (by decide) (by decide)), iv_im_g i6 (Nat.le_refl _) (Nat.le_refl _) (e 6 (by decide) (by decide)), h7, iv_sh_g i8 (Nat.le_refl _) (e 8 (by decide) (by decide)) (fun _ _ _ => rfl)⟩
theorem Inv_8 {P D B : Nat} {I' : sm_I} {J' : sm_J} (i1 : iv_ro xs I) (i2 : iv_fo P D I) (i3 : iv_ch P I) (i4 : iv_ta I) (i5 : iv_la I) (i6 : iv_im P D I) (i7 : iv_tu B I) (ha : ag 8 I I') (h8 : iv_sh B I' J') : Inv xs I' J' := by
  have e := ag_e ha
  exact ⟨P, D, B, iv_ro_g i1 (e 1 (by decide) (by decide)), iv_fo_g i2 (e 2 (by decide) (by decide)), iv_ch_g i3 (Nat.le_refl _) (e 3 (by decide) (by decide)), iv_ta_f i4 (e 4 (by decide) (by decide)), iv_la_f i5 (e 5 (by decide) (by decide)), iv_im_g i6 (Nat.le_refl _) (Nat.le_refl _) (e 6 (by decide) (by decide)), iv_tu_g i7 (e 7 (by decide) (by decide)), h8⟩
theorem pi_keep (hI : Inv xs I J) (x b : Int32) : pw n I J 119 [.ref 26, .int x, .int b] 231 [.ref 103, .int x, .int b] (fun I2 J2 => Inv xs I2 J2) := by
  obtain ⟨P, D, B, i1, i2, i3, i4, i5, i6, i7, i8⟩ := id hI
  exact pw_mono (fun I2 J2 h => Inv_8 i1 i2 i3 i4 i5 i6 i7 h.1 h.2.2) (pr_pw rfl (pr_keep i7 i8 x b))
theorem pi_row (hI : Inv xs I J) (x t m : Int32) : pw n I J 120 [.ref 26, .int x, .int t, .int m] 232 [.ref 103, .int x, .int t, .int m, .null] (fun I2 J2 => Inv xs I2 J2) := by
  obtain ⟨P, D, B, i1, i2, i3, i4, i5, i6, i7, i8⟩ := id hI
  exact pw_mono (fun I2 J2 h => Inv_8 i1 i2 i3 i4 i5 i6 i7 h.1 h.2) (pr_pw rfl (pr_row i8 x t m))
theorem pi_put (hI : Inv xs I J) (x i : Int32) (v : Int64) : pw n I J 121 [.ref 26, .int x, .int i, .long v, .null, .null] 235 [.ref 103, .int x, .int i, .long v, .null, .null] (fun I2 J2 => Inv xs I2 J2) := by
  obtain ⟨P, D, B, i1, i2, i3, i4, i5, i6, i7, i8⟩ := id hI
  exact pw_mono (fun I2 J2 h => Inv_8 i1 i2 i3 i4 i5 i6 i7 (by rw [h.1]; exact ag_refl _ _) h.2) (pr_pw rfl (pr_put i7.1 i8 x i v))
theorem pi_shift (hI : Inv xs I J) (x i y j m : Int32) : pw n I J 123 [.ref 26, .int x, .int i, .int y, .int j, .int m, .null, .null] 237 [.ref 103, .int x, .int i, .int y, .int j, .int m, .null] (fun I2 J2 => Inv xs I2 J2) := by
  obtain ⟨P, D, B, i1, i2, i3, i4, i5, i6, i7, i8⟩ := id hI
  exact pw_mono (fun I2 J2 h => Inv_8 i1 i2 i3 i4 i5 i6 i7 (by rw [h.1]; exact ag_refl _ _) h.2) (pr_pw rfl (pr_shift i7.1 i8 x i y j m))
theorem pi_law (hI : Inv xs I J) : pw n I J 90 [.ref 26, .null] 178 [.ref 103, .null, .null, .null] (fun I2 J2 => Inv xs I2 J2) := by
  obtain ⟨P, D, B, i1, i2, i3, i4, i5, i6, i7, i8⟩ := id hI
  refine pw_mono (fun I2 J2 h => ?_) (pw_law i1 i4 i5)
  obtain ⟨hf, rfl, h4, h5⟩ := h
  have e : ∀ k, k ≠ 0 → k ≠ 4 → k ≠ 5 → ∀ q b, rg q b = k → I2 q b = I q b := fun k k0 k4 k5 q b hr => hf q b (by rw [hr]; exact k0) (by rw [hr]; exact k4) (by rw [hr]; exact k5)
  exact ⟨P, D, B, iv_ro_g i1 (e 1 (by decide) (by decide) (by decide)), iv_fo_g i2 (e 2 (by decide) (by decide) (by decide)), iv_ch_g i3 (Nat.le_refl _) (e 3 (by decide) (by decide) (by decide)), h4, h5, iv_im_g i6 (Nat.le_refl _) (Nat.le_refl _) (e 6 (by decide) (by decide) (by decide)), iv_tu_g i7 (e 7 (by decide) (by decide) (by decide)), iv_sh_g i8 (Nat.le_refl _) (e 8 (by decide) (by decide) (by decide)) (fun _ _ _ => rfl)⟩
theorem pi_feed (hI : Inv xs I J) (x : Int32) : pw n I J 89 [.ref 26, .int x] 166 [.ref 103, .int x] (fun I2 J2 => Inv xs I2 J2) := by
  obtain ⟨P, D, B, i1, i2, i3, i4, i5, i6, i7, i8⟩ := id hI
  refine pw_mono (fun I2 J2 h => ?_) (pr_pw rfl (pr_feed i4 x))
  obtain ⟨ha, rfl, h4⟩ := h
  have e := ag_e ha
  exact ⟨P, D, B, iv_ro_g i1 (e 1 (by decide) (by decide)), iv_fo_g i2 (e 2 (by decide) (by decide)), iv_ch_g i3 (Nat.le_refl _) (e 3 (by decide) (by decide)), h4, iv_la_f i5 (e 5 (by decide) (by decide)), iv_im_g i6 (Nat.le_refl _) (Nat.le_refl _) (e 6 (by decide) (by decide)), iv_tu_g i7 (e 7 (by decide) (by decide)), iv_sh_g i8 (Nat.le_refl _) (e 8 (by decide) (by decide)) (fun _ _ _ => rfl)⟩
theorem pi_moves (hI : Inv xs I J) (x : Int32) : pw n I J 91 [.ref 26, .int x] 184 [.ref 103, .int x] (fun I2 J2 => Inv xs I2 J2) := by
  obtain ⟨P, D, B, i1, i2, i3, i4, i5, i6, i7, i8⟩ := id hI
  exact pw_mono (fun I2 J2 h => by rw [h.2]; exact Inv_0 hI h.1) (pw_moves i2 i5 x)
theorem lw_c38 {L i : Nat} (hL : L ≤ 3072) (hi : 6 * i + 5 < L) (hI : Inv xs I J) (d : Nat) (K : Option Value → sm_H → Prop) (hK : ∀ I2 J2, Inv xs I2 J2 → sm_Ok (d + 201) 251 1493 [.ref 0, .ref 26, .ref 103, .int (nI (6 * i))] [] (sm_SH L, I2, J2) K) : sm_Ok (d + 201) 251 1340 [.ref 0, .ref 26, .ref 103, .int (nI (6 * i))] [] (sm_SH L, I, J) K := by
  obtain ⟨P, D, B, i1, i2, i3, i4, i5, i6, i7, i8⟩ := id hI
  have a1 : nI (6 * i) + 1 = nI (6 * i + 1) := nI_add _ 1
  have a2 : nI (6 * i) + 2 = nI (6 * i + 2) := nI_add _ 2
  obtain ⟨r, I1, J1, I2, J2, h1, h2, hq1, hq2⟩ := pr_element (n := L) i7.1 i8 (I 0 (6 * i + 1)) (I 0 (6 * i + 2))
  have hv : ∃ v, some r = some (Value.long v) := by
    obtain ⟨m, r', h', e, -⟩ := (h1 d (fun _ _ => True)).mpr trivial
    obtain ⟨v, hv⟩ := sm_ret_long m _ _ _ _ _ _ _ _ rfl e
    exact (h1 d (fun r _ => ∃ v, r = some (.long v))).mp ⟨m, r', h', e, v, hv⟩
  obtain ⟨v, hv⟩ := hv
  cases hv
  have hp : ∀ q j, q < 26 → I1 q j = I q j := by
    obtain ⟨m, r', h', e, hk⟩ := (h1 d (fun r h => h = (sm_SH L, I1, J1))).mpr rfl
    subst hk
    have hlen : 26 ≤ (sm_SH L).length := by
      have e1 : (sm_SH L).length = 130 := rfl
      rw [e1]
      decide
    exact fun q j hq => ((sm_ev_pr _ _ _ _ _ _ _ _ _ e).2 hlen q hq).2 j
  have e1 : I1 0 (6 * i + 1) = I 0 (6 * i + 1) := hp 0 _ (by omega)
  have e2 : I1 0 (6 * i + 2) = I 0 (6 * i + 2) := hp 0 _ (by omega)
  have hc : lg_cmp v v = 0 := by
    unfold lg_cmp
    simp
  simp only [z251_1340, z251_1341, z251_1342, z251_1343, z251_1344, z251_1345, z251_1346, z251_1347, z251_1348, z251_1349, z251_1350, z251_1351, sm_cti, sm_ctr, sm_ctn, sm_nbi, Option.toList_some, Option.toList_none, List.cons_append, List.nil_append, ne_eq, reduceCtorEq, not_false_eq_true, Nat.reduceLeDiff, rc26, a1, a2, y_inN (show 6 * i + 1 < L by omega) (show L < 2 ^ 31 by omega), nI_clamp (show 6 * i + 1 < 2 ^ 31 by omega), y_inN (show 6 * i + 2 < L by omega) (show L < 2 ^ 31 by omega), nI_clamp (show 6 * i + 2 < 2 ^ 31 by omega), if_true, if_false, not_true_eq_false, not_false_eq_true, and_true, true_and, and_false, false_and, and_self, or_true, true_or, or_false, false_or, reduceIte, iff_self, Int32.add_zero, y_10, Classical.not_not]
  refine (h1 d _).mpr ?_
  simp only [z251_1354, z251_1355, z251_1356, z251_1357, z251_1358, z251_1359, z251_1360, z251_1361, z251_1362, z251_1363, z251_1364, z251_1365, sm_cti, sm_ctr, sm_ctn, sm_nbi, Option.toList_some, Option.toList_none, List.cons_append, List.nil_append, ne_eq, reduceCtorEq, not_false_eq_true, Nat.reduceLeDiff, rc103, a1, a2, e1, e2, y_inN (show 6 * i + 1 < L by omega) (show L < 2 ^ 31 by omega), nI_clamp (show 6 * i + 1 < 2 ^ 31 by omega), y_inN (show 6 * i + 2 < L by omega) (show L < 2 ^ 31 by omega), nI_clamp (show 6 * i + 2 < 2 ^ 31 by omega), if_true, if_false, not_true_eq_false, not_false_eq_true, and_true, true_and, and_false, false_and, and_self, or_true, true_or, or_false, false_or, reduceIte, iff_self, Int32.add_zero, y_10, Classical.not_not]
  refine (h2 d _).mpr ?_
  simp only [z251_1368, z251_1369, sm_cti, sm_ctr, sm_ctn, sm_nbi, Option.toList_some, Option.toList_none, List.cons_append, List.nil_append, ne_eq, reduceCtorEq, not_false_eq_true, Nat.reduceLeDiff, hc, if_true, if_false, not_true_eq_false, not_false_eq_true, and_true, true_and, and_false, false_and, and_self, or_true, true_or, or_false, false_or, reduceIte, iff_self, Int32.add_zero, y_10, Classical.not_not]
  rw [hq1, hq2]
  exact hK I J hI
end
