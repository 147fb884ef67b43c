/-! the law's loop; the start -/
theorem st_Inv (xs : Nat → Int32) : Inv xs (st_I xs) st_J := by
  refine ⟨0, 0, 0, fun q b hq => iv0 xs q b hq, ⟨⟨by decide, by decide, ?_, ?_, ?_, ?_⟩, fun k hk => ?_, fun p _ hp => ?_, fun e he => absurd he (Nat.not_lt_zero _)⟩, ⟨0, 0, Nat.le_refl _, ⟨by decide, iv117 xs 0⟩, ?_, ?_, ?_, ?_, fun j hj => absurd hj (Nat.not_lt_zero _)⟩, ⟨0, by decide, ?_, ?_, fun j hj => absurd hj (Nat.not_lt_zero _)⟩, Or.inl ⟨?_, iv27 xs 3⟩, ⟨fun k _ => ?_, Or.inl ⟨iv48 xs 4, ?_⟩⟩, ⟨by decide, ?_, ?_, fun b hb => absurd hb (Nat.not_lt_zero _), 0, by decide, ?_, ?_, fun j hj => absurd hj (Nat.not_lt_zero _)⟩, fun s hs => ⟨Or.inl ?_, fun j _ => ?_⟩⟩
  · rw [iv34]
    rfl
  · rw [iv34]
    rfl
  · rw [iv103]
    rfl
  · rw [iv103]
    rfl
  · rcases nm_c hk with ⟨p, hp, rfl⟩ | ⟨p, hp, rfl⟩ | ⟨p, hp, rfl⟩ | ⟨p, hp, rfl⟩ | ⟨p, hp, rfl⟩ | ⟨p, hp, rfl⟩ | rfl | rfl
    · obtain ⟨q1, q2, q3, q4, q5⟩ := (nm_p ⟨p, hp⟩).1
      rw [q3, iv35, iv104, if_neg (by omega)]
      exact ⟨rfl, 0, Nat.zero_le _, rfl⟩
    · obtain ⟨q1, q2, q3, q4, q5⟩ := (nm_p ⟨p, hp⟩).2.1
      rw [q3, iv36, iv104, if_neg (by omega)]
      exact ⟨rfl, 0, Nat.zero_le _, rfl⟩
    · obtain ⟨q1, q2, q3, q4, q5⟩ := (nm_p ⟨p, hp⟩).2.2.1
      rw [q3, iv37, iv104, if_neg (by omega)]
      exact ⟨rfl, 0, Nat.zero_le _, rfl⟩
    · obtain ⟨q1, q2, q3, q4, q5⟩ := (nm_p ⟨p, hp⟩).2.2.2.1
      rw [q3, iv41, iv104, if_neg (by omega)]
      exact ⟨rfl, 0, Nat.zero_le _, rfl⟩
    · obtain ⟨q1, q2, q3, q4, q5⟩ := (nm_p ⟨p, hp⟩).2.2.2.2
      rw [q3, iv42, iv104, if_neg (by omega)]
      exact ⟨rfl, 0, Nat.zero_le _, rfl⟩
    · obtain ⟨q1, q2, q3, q4, q5⟩ := nm_d ⟨p, hp⟩
      rw [q3, iv43, iv104, if_neg (by omega)]
      exact ⟨rfl, 0, Nat.zero_le _, rfl⟩
    · obtain ⟨q1, q2, q3, q4, q5⟩ := nm_52
      rw [q3, q4, iv34, iv104]
      exact ⟨rfl, 2, by decide, rfl⟩
    · obtain ⟨q1, q2, q3, q4, q5⟩ := nm_53
      rw [q3, iv40, iv104]
      exact ⟨rfl, 0, Nat.zero_le _, rfl⟩
  · rw [iv104, if_neg (by omega)]
  · rw [iv54]
    rfl
  · rw [iv54]
    rfl
  · rw [iv103]
    rfl
  · rw [iv103]
    rfl
  · rw [iv31]
    rfl
  · rw [iv103]
    rfl
  · rw [iv103]
    rfl
  · rw [iv59, iv121]
  · rw [iv103]
    rfl
  · rw [iv87]
    rfl
  · rw [iv103]
    rfl
  · rw [iv87]
    rfl
  · rw [iv103]
    rfl
  · rcases (show s = 0 ∨ s = 1 ∨ s = 2 ∨ s = 3 ∨ s = 4 ∨ s = 5 by omega) with rfl | rfl | rfl | rfl | rfl | rfl
    · exact ⟨by rw [iv126]; rfl, by rw [show 91 + 2 * 0 = 91 from rfl, iv91]; rfl, by rw [show 91 + 2 * 0 = 91 from rfl, iv91]; rfl⟩
    · exact ⟨by rw [iv126]; rfl, by rw [show 91 + 2 * 1 = 93 from rfl, iv93]; rfl, by rw [show 91 + 2 * 1 = 93 from rfl, iv93]; rfl⟩
    · exact ⟨by rw [iv126]; rfl, by rw [show 91 + 2 * 2 = 95 from rfl, iv95]; rfl, by rw [show 91 + 2 * 2 = 95 from rfl, iv95]; rfl⟩
    · exact ⟨by rw [iv126]; rfl, by rw [show 91 + 2 * 3 = 97 from rfl, iv97]; rfl, by rw [show 91 + 2 * 3 = 97 from rfl, iv97]; rfl⟩
    · exact ⟨by rw [iv126]; rfl, by rw [show 91 + 2 * 4 = 99 from rfl, iv99]; rfl, by rw [show 91 + 2 * 4 = 99 from rfl, iv99]; rfl⟩
    · exact ⟨by rw [iv126]; rfl, by rw [show 91 + 2 * 5 = 101 from rfl, iv101]; rfl, by rw [show 91 + 2 * 5 = 101 from rfl, iv101]; rfl⟩
  · rw [jv, jv]
theorem lw_cond {L i : Nat} (hL : L ≤ 3072) (hi : 6 * i ≤ 4000) : (Int32.ofNat L - 6 < nI (6 * i)) ↔ L < 6 * i + 6 := by
  have e1 : (Int32.ofNat L - 6).toInt = (L : Int) - 6 := by
    have h1 := nI_toInt (show L < 2 ^ 31 by omega)
    have h2 : (6 : Int32).toInt = 6 := by decide
    rw [Int32.toInt_sub, h2]
    show Int.bmod ((nI L).toInt - 6) _ = _
    rw [h1]
    exact Int.bmod_eq_of_le (by omega) (by omega)
  rw [Int32.lt_iff_toInt_lt, e1, nI_toInt (show 6 * i < 2 ^ 31 by omega)]
  omega
theorem lw_loop {xs : Nat → Int32} {L : Nat} (hL : L ≤ 3072) (d : Nat) (K : Option Value → sm_H → Prop) (hK : ∀ I J, K (some (.int 1)) (sm_SH L, I, J)) : ∀ (w i : Nat), L ≤ 6 * i + 6 * w → 6 * i ≤ L + 6 → ∀ (I : sm_I) (J : sm_J), Inv xs I J → sm_Ok (d + 201) 251 18 [.ref 0, .ref 26, .ref 103, .int (nI (6 * i))] [] (sm_SH L, I, J) K
  | 0, i, h, hi, I, J, hI => by
    have hc : (Int32.ofNat L - 6 < nI (6 * i)) = True := eq_true ((lw_cond hL (by omega)).mpr (by omega))
    rw [z251_18]
    simp only [z251_19, z251_20, z251_21, z251_23, z251_24, z251_1499, z251_1500_1, sm_cti, sm_ctr, sm_ctn, sm_nbi, Option.toList_some, Option.toList_none, List.cons_append, List.nil_append, ne_eq, reduceCtorEq, not_false_eq_true, Nat.reduceLeDiff, hc, if_true, if_false, not_true_eq_false, not_false_eq_true, and_true, true_and, and_false, false_and, and_self, or_true, true_or, or_false, false_or, reduceIte, iff_self, Int32.add_zero, y_10, Classical.not_not]
    exact hK I J
  | w + 1, i, h, hi, I, J, hI => by
    by_cases hend : L < 6 * i + 6
    · have hc : (Int32.ofNat L - 6 < nI (6 * i)) = True := eq_true ((lw_cond hL (by omega)).mpr hend)
      rw [z251_18]
      simp only [z251_19, z251_20, z251_21, z251_23, z251_24, z251_1499, z251_1500_1, sm_cti, sm_ctr, sm_ctn, sm_nbi, Option.toList_some, Option.toList_none, List.cons_append, List.nil_append, ne_eq, reduceCtorEq, not_false_eq_true, Nat.reduceLeDiff, hc, if_true, if_false, not_true_eq_false, not_false_eq_true, and_true, true_and, and_false, false_and, and_self, or_true, true_or, or_false, false_or, reduceIte, iff_self, Int32.add_zero, y_10, Classical.not_not]
      exact hK I J
    · have hc : (Int32.ofNat L - 6 < nI (6 * i)) = False := eq_false (fun z => hend ((lw_cond hL (by omega)).mp z))
      have hi5 : 6 * i + 5 < L := by omega
      have nxt : ∀ I2 J2, Inv xs I2 J2 → sm_Ok (d + 201) 251 1493 [.ref 0, .ref 26, .ref 103, .int (nI (6 * i))] [] (sm_SH L, I2, J2) K := fun I2 J2 h2 => by
        have a6 : nI (6 * i) + 6 = nI (6 * (i + 1)) := by
          rw [show 6 * (i + 1) = 6 * i + 6 by omega]
          exact nI_add _ 6
        simp only [z251_1493, z251_1496, sm_cti, sm_ctr, sm_ctn, sm_nbi, Option.toList_some, Option.toList_none, List.cons_append, List.nil_append, ne_eq, reduceCtorEq, not_false_eq_true, Nat.reduceLeDiff, a6, if_true, if_false, not_true_eq_false, not_false_eq_true, and_true, true_and, and_false, false_and, and_self, or_true, true_or, or_false, false_or, reduceIte, iff_self, Int32.add_zero, y_10, Classical.not_not]
        exact lw_loop hL d K hK w (i + 1) (by omega) (by omega) I2 J2 h2
      rw [z251_18]
      simp only [z251_19, z251_20, z251_21, z251_23, z251_24, z251_27, z251_28, z251_29, z251_30, z251_32, z251_33, sm_cti, sm_ctr, sm_ctn, sm_nbi, Option.toList_some, Option.toList_none, List.cons_append, List.nil_append, ne_eq, reduceCtorEq, not_false_eq_true, Nat.reduceLeDiff, hc, y_inN (show 6 * i < L by omega) (show L < 2 ^ 31 by omega), nI_clamp (show 6 * i < 2 ^ 31 by omega), if_true, if_false, not_true_eq_false, not_false_eq_true, and_true, true_and, and_false, false_and, and_self, or_true, true_or, or_false, false_or, reduceIte, iff_self, Int32.add_zero, y_10, Classical.not_not]
      generalize I 0 (6 * i) &&& 63 = x
      by_cases h0 : x = 0
      · rw [if_pos h0]
        exact lw_c0 hL hi5 hI d K nxt
      rw [if_neg h0]
      by_cases h1 : x = 1
      · rw [if_pos h1]
        exact lw_c1 hL hi5 hI d K nxt
      rw [if_neg h1]
      by_cases h2 : x = 2
      · rw [if_pos h2]
        exact lw_c2 hL hi5 hI d K nxt
      rw [if_neg h2]
      by_cases h3 : x = 3
      · rw [if_pos h3]
        exact lw_c3 hL hi5 hI d K nxt
      rw [if_neg h3]
      by_cases h4 : x = 4
      · rw [if_pos h4]
        exact lw_c4 hL hi5 hI d K nxt
      rw [if_neg h4]
      by_cases h5 : x = 5
      · rw [if_pos h5]
        exact lw_c5 hL hi5 hI d K nxt
      rw [if_neg h5]
      by_cases h6 : x = 6
      · rw [if_pos h6]
        exact lw_c6 hL hi5 hI d K nxt
      rw [if_neg h6]
      by_cases h7 : x = 7
      · rw [if_pos h7]
        exact lw_c7 hL hi5 hI d K nxt
      rw [if_neg h7]
      by_cases h8 : x = 8
      · rw [if_pos h8]
        exact lw_c8 hL hi5 hI d K nxt
      rw [if_neg h8]
      by_cases h9 : x = 9
      · rw [if_pos h9]
        exact lw_c9 hL hi5 hI d K nxt
      rw [if_neg h9]
      by_cases h10 : x = 10
      · rw [if_pos h10]
        exact lw_c10 hL hi5 hI d K nxt
      rw [if_neg h10]
      by_cases h11 : x = 11
      · rw [if_pos h11]
        exact lw_c11 hL hi5 hI d K nxt
      rw [if_neg h11]
      by_cases h12 : x = 12
      · rw [if_pos h12]
        exact lw_c12 hL hi5 hI d K nxt
      rw [if_neg h12]
      by_cases h13 : x = 13
      · rw [if_pos h13]
        exact lw_c13 hL hi5 hI d K nxt
      rw [if_neg h13]
      by_cases h14 : x = 14
      · rw [if_pos h14]
        exact lw_c14 hL hi5 hI d K nxt
      rw [if_neg h14]
      by_cases h15 : x = 15
      · rw [if_pos h15]
        exact lw_c15 hL hi5 hI d K nxt
      rw [if_neg h15]
      by_cases h16 : x = 16
      · rw [if_pos h16]
        exact lw_c16 hL hi5 hI d K nxt
      rw [if_neg h16]
      by_cases h17 : x = 17
      · rw [if_pos h17]
        exact lw_c17 hL hi5 hI d K nxt
      rw [if_neg h17]
      by_cases h18 : x = 18
      · rw [if_pos h18]
        exact lw_c18 hL hi5 hI d K nxt
      rw [if_neg h18]
      by_cases h19 : x = 19
      · rw [if_pos h19]
        exact lw_c19 hL hi5 hI d K nxt
      rw [if_neg h19]
      by_cases h20 : x = 20
      · rw [if_pos h20]
        exact lw_c20 hL hi5 hI d K nxt
      rw [if_neg h20]
      by_cases h21 : x = 21
      · rw [if_pos h21]
        exact lw_c21 hL hi5 hI d K nxt
      rw [if_neg h21]
      by_cases h22 : x = 22
      · rw [if_pos h22]
        exact lw_c22 hL hi5 hI d K nxt
      rw [if_neg h22]
      by_cases h23 : x = 23
      · rw [if_pos h23]
        exact lw_c23 hL hi5 hI d K nxt
      rw [if_neg h23]
      by_cases h24 : x = 24
      · rw [if_pos h24]
        exact lw_c24 hL hi5 hI d K nxt
      rw [if_neg h24]
      by_cases h25 : x = 25
      · rw [if_pos h25]
        exact lw_c25 hL hi5 hI d K nxt
      rw [if_neg h25]
      by_cases h26 : x = 26
      · rw [if_pos h26]
        exact lw_c26 hL hi5 hI d K nxt
      rw [if_neg h26]
      by_cases h27 : x = 27
      · rw [if_pos h27]
        exact lw_c27 hL hi5 hI d K nxt
      rw [if_neg h27]
      by_cases h28 : x = 28
      · rw [if_pos h28]
        exact lw_c28 hL hi5 hI d K nxt
      rw [if_neg h28]
      by_cases h29 : x = 29
      · rw [if_pos h29]
        exact lw_c29 hL hi5 hI d K nxt
      rw [if_neg h29]
      by_cases h30 : x = 30
      · rw [if_pos h30]
        exact lw_c30 hL hi5 hI d K nxt
      rw [if_neg h30]
      by_cases h31 : x = 31
      · rw [if_pos h31]
        exact lw_c31 hL hi5 hI d K nxt
      rw [if_neg h31]
      by_cases h32 : x = 32
      · rw [if_pos h32]
        exact lw_c32 hL hi5 hI d K nxt
      rw [if_neg h32]
      by_cases h33 : x = 33
      · rw [if_pos h33]
        exact lw_c33 hL hi5 hI d K nxt
      rw [if_neg h33]
      by_cases h34 : x = 34
      · rw [if_pos h34]
        exact lw_c34 hL hi5 hI d K nxt
      rw [if_neg h34]
      by_cases h35 : x = 35
      · rw [if_pos h35]
        exact lw_c35 hL hi5 hI d K nxt
      rw [if_neg h35]
      by_cases h36 : x = 36
      · rw [if_pos h36]
        exact lw_c36 hL hi5 hI d K nxt
      rw [if_neg h36]
      by_cases h37 : x = 37
      · rw [if_pos h37]
        exact lw_c37 hL hi5 hI d K nxt
      rw [if_neg h37]
      by_cases h38 : x = 38
      · rw [if_pos h38]
        exact lw_c38 hL hi5 hI d K nxt
      rw [if_neg h38]
      by_cases h39 : x = 39
      · rw [if_pos h39]
        exact lw_c39 hL hi5 hI d K nxt
      rw [if_neg h39]
      by_cases h40 : x = 40
      · rw [if_pos h40]
        exact lw_c40 hL hi5 hI d K nxt
      rw [if_neg h40]
      by_cases h41 : x = 41
      · rw [if_pos h41]
        exact lw_c41 hL hi5 hI d K nxt
      rw [if_neg h41]
      exact nxt I J hI
/-- from the entry, for every script of at most 3072 ints, the law comes to its end with true -/
theorem whole_start {p : Program} {e : Env} {s : State} {m : MethodId} {below : List Frame} {meth : Method} {c : Code} (l : Launch) {b L : Nat} {xs : Nat → Int32} (hL : L ≤ 3072) (C0 : lw_At p s m meth c b L xs) : W p l e room_1 s m #[Value.ref b] below meth c s.heap [] 0 0 (lw_Z below #[Value.ref b] s) (entryFrame m ([Value.ref b] : List Value).toArray 4) := by
  refine sm_whole l hL C0 (st_run L xs _ ?_)
  have n0 : (0 : Int32) = nI (6 * 0) := rfl
  have hl := lw_loop (xs := xs) hL 799 (fun r h' => r = some (.int 1) ∧ h'.1.length ≤ 7000) (fun I J => ⟨rfl, by
    have e1 : (sm_SH L).length = 130 := rfl
    show (sm_SH L).length ≤ 7000
    rw [e1]
    decide⟩) (L + 1) 0 (by omega) (by omega) (st_I xs) st_J (st_Inv xs)
  rw [z251_16]
  simp only [z251_17, sm_cti, sm_ctr, sm_ctn, sm_nbi, Option.toList_some, Option.toList_none, List.cons_append, List.nil_append, ne_eq, reduceCtorEq, not_false_eq_true, Nat.reduceLeDiff, if_true, if_false, not_true_eq_false, not_false_eq_true, and_true, true_and, and_false, false_and, and_self, or_true, true_or, or_false, false_or, reduceIte, iff_self, Int32.add_zero, y_10, Classical.not_not]
  rw [n0]
  exact hl
