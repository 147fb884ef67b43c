/-! helpers of the rules -/
theorem sm_cd_of {mi pc : Nat} {q : sm_Me} {e : sm_E} (h : sm_M[mi]? = some q) (h2 : q.2.2.2.2.2.lookup pc = some e) : sm_cd mi pc = some e := by
  unfold sm_cd; rw [h]; exact h2
theorem sm_rtN {mi : Nat} {v : Int32} {ty : FieldType} (h : sm_ret mi = some ty) (hv : narrow ty (.int v) = .int v) (ht : ty = .int ∨ ty = .boolean ∨ ty = .byte) : sm_rt mi .ireturn [.int v] = some (some (.int v)) := by
  simp only [sm_rt, h]
  rw [if_pos ⟨hv, ht⟩]
theorem sm_kcE {q k : Nat} (h : (sm_kc q).1 = k) : sm_kc q = (k, (sm_kc q).2) := by rw [← h]
theorem sm_catE {c : Nat} (h : c = 1) : (false || !(c == 2)) = true := by subst h; rfl
section
variable {d mi pc : Nat} {L L' st : List Value} {a b : Nat} {z : Int} {K : Option Value → sm_H → Prop} {h : sm_H}
theorem sm_ok_istn {k : Fin 4} {x : Int32} (hcd : sm_cd mi pc = some (.istore_n k, 1, a, b, z)) (hk : (k : Nat) < L.length) (hc : sm_cat L k = true) (hL : L.set k (.int x) = L') : sm_Ok d mi pc L (.int x :: st) h K ↔ sm_Ok d mi (pc + 1) L' st h K := by
  subst hL
  exact sm_ok_step hcd rfl (fun z => by cases z.1) (by simp only [sm_step]; rw [if_pos ⟨hk, hc⟩])
theorem sm_ok_ist {k : Nat} {x : Int32} (hcd : sm_cd mi pc = some (.istore k, 2, a, b, z)) (hk : k < L.length) (hc : sm_cat L k = true) (hL : L.set k (.int x) = L') : sm_Ok d mi pc L (.int x :: st) h K ↔ sm_Ok d mi (pc + 2) L' st h K := by
  subst hL
  exact sm_ok_step hcd rfl (fun z => by cases z.1) (by simp only [sm_step]; rw [if_pos ⟨hk, hc⟩])
theorem sm_ok_astn {k : Fin 4} {x : Nat} (hcd : sm_cd mi pc = some (.astore_n k, 1, a, b, z)) (hk : (k : Nat) < L.length) (hc : sm_cat L k = true) (hL : L.set k (.ref x) = L') : sm_Ok d mi pc L (.ref x :: st) h K ↔ sm_Ok d mi (pc + 1) L' st h K := by
  subst hL
  exact sm_ok_step hcd rfl (fun z => by cases z.1) (by simp only [sm_step]; rw [if_pos ⟨hk, hc⟩])
theorem sm_ok_ast {k : Nat} {x : Nat} (hcd : sm_cd mi pc = some (.astore k, 2, a, b, z)) (hk : k < L.length) (hc : sm_cat L k = true) (hL : L.set k (.ref x) = L') : sm_Ok d mi pc L (.ref x :: st) h K ↔ sm_Ok d mi (pc + 2) L' st h K := by
  subst hL
  exact sm_ok_step hcd rfl (fun z => by cases z.1) (by simp only [sm_step]; rw [if_pos ⟨hk, hc⟩])
theorem sm_ok_iinc {k : Nat} {n : Int} {x v : Int32} (hcd : sm_cd mi pc = some (.iinc k n, 3, a, b, z)) (hx : sm_ld L k = .int x) (hv : x + Int32.ofInt n = v) (hk : k < L.length) (hc : sm_cat L k = true) (hL : L.set k (.int v) = L') : sm_Ok d mi pc L st h K ↔ sm_Ok d mi (pc + 3) L' st h K := by
  subst hL
  subst hv
  exact sm_ok_step hcd rfl (fun z => by cases z.1) (by simp only [sm_step, hx]; rw [if_pos ⟨hk, hc, trivial⟩])
end
theorem sm_callV' {ix a b q : Nat} {st : List Value} {h : sm_H} (ha : ¬ 9000 ≤ a) (hb : b + 1 ≤ st.length ∧ ((st.drop (b + 1)).map fun v => v.category).sum ≤ 8) (h1 : st[b]? = some (.ref q)) (hq : sm_rc h q = sm_cls a) : sm_call (.invokevirtual ix) a b st h = some (a, (st.take (b + 1)).reverse, st.drop (b + 1)) := by
  simp only [sm_call]
  rw [if_neg ha, if_pos hb, h1]
  dsimp only
  rw [if_pos hq]
theorem sm_callV {ix a b q : Nat} {st : List Value} {h : sm_H} (ha : ¬ 9000 ≤ a) (hb : b + 1 ≤ st.length ∧ ((st.drop (b + 1)).map fun v => v.category).sum ≤ 8) (h1 : st[b]? = some (.ref q)) {cc : Nat} (hq : sm_rc h q = cc) (hcc : sm_cls a = cc) : sm_call (.invokevirtual ix) a b st h = some (a, (st.take (b + 1)).reverse, st.drop (b + 1)) := sm_callV' ha hb h1 (hq.trans hcc.symm)
theorem sm_callS {ix a b : Nat} {st : List Value} {h : sm_H} (ha : ¬ 9000 ≤ a) (hb : b ≤ st.length ∧ ((st.drop b).map fun v => v.category).sum ≤ 8) : sm_call (.invokestatic ix) a b st h = some (a, (st.take b).reverse, st.drop b) := by
  simp only [sm_call]
  rw [if_neg ha, if_pos hb]
theorem sm_SH_str {n q : Nat} (h4 : 4 ≤ q) (h5 : q < 15) : (sm_SH n)[q]? = some (5, 0, []) := by
  rcases (show q = 4 ∨ q = 5 ∨ q = 6 ∨ q = 7 ∨ q = 8 ∨ q = 9 ∨ q = 10 ∨ q = 11 ∨ q = 12 ∨ q = 13 ∨ q = 14 by omega) with rfl | rfl | rfl | rfl | rfl | rfl | rfl | rfl | rfl | rfl | rfl <;> rfl
section
variable {d mi pc : Nat} {L st : List Value} {len a b : Nat} {z : Int} {K : Option Value → sm_H → Prop} {n : Nat} {I : sm_I} {J : sm_J}
theorem sm_ok_getS0 {ix q : Nat} (hcd : sm_cd mi pc = some (.getfield ix, 3, 13, 0, z)) (h4 : 4 ≤ q) (h5 : q < 15) : sm_Ok d mi pc L (.ref q :: st) (sm_SH n, I, J) K ↔ sm_Ok d mi (pc + 3) L (.ref (q + 11) :: st) (sm_SH n, I, J) K := by
  refine sm_ok_step hcd rfl (fun z => by cases z.1) ?_
  simp only [sm_step, sm_SH_str h4 h5]
  rw [if_neg (fun q => absurd q.1 (by decide)), if_pos ⟨trivial, trivial, h4, h5⟩, if_pos trivial]
theorem sm_ok_getS1 {ix q : Nat} (hcd : sm_cd mi pc = some (.getfield ix, 3, 13, 1, z)) (h4 : 4 ≤ q) (h5 : q < 15) : sm_Ok d mi pc L (.ref q :: st) (sm_SH n, I, J) K ↔ sm_Ok d mi (pc + 3) L (.int 0 :: st) (sm_SH n, I, J) K := by
  refine sm_ok_step hcd rfl (fun z => by cases z.1) ?_
  simp only [sm_step, sm_SH_str h4 h5]
  rw [if_neg (fun q => absurd q.1 (by decide)), if_pos ⟨trivial, trivial, h4, h5⟩, if_neg (by decide)]
end
theorem sm_rc_of {q c n : Nat} {I : sm_I} {J : sm_J} (h : sm_kc q = (0, c)) : sm_rc (sm_SH n, I, J) q = c := by
  have h26 := sm_hi26 h (Or.inl rfl)
  obtain ⟨rs, hs, -⟩ := sm_SH_at (n := n) h (by decide) (by omega)
  simp only [sm_rc, hs]
  rw [if_pos ⟨trivial, h26⟩]
theorem sm_rc_str {q n : Nat} {I : sm_I} {J : sm_J} (h4 : 4 ≤ q) (h5 : q < 15) : sm_rc (sm_SH n, I, J) q = 13 := by
  simp only [sm_rc, sm_SH_str h4 h5]
  rw [if_neg (fun q => absurd q.1 (by decide)), if_pos ⟨trivial, h4, h5⟩]
theorem sm_ct_i (x : Int32) : (Value.int x).category = 1 := rfl
theorem sm_ct_r (x : Nat) : (Value.ref x).category = 1 := rfl
theorem sm_ct_n : Value.null.category = 1 := rfl
theorem sm_nb0 : narrow .boolean (.int 0) = .int 0 := rfl
theorem sm_nb1 : narrow .boolean (.int 1) = .int 1 := rfl
theorem sm_nbi (P : Prop) [Decidable P] : narrow .boolean (.int (if P then 1 else 0)) = .int (if P then 1 else 0) := by split <;> rfl
theorem kc1 : sm_kc 1 = (1, 8) := by decide +kernel
theorem kc2 : sm_kc 2 = (1, 8) := by decide +kernel
theorem kc3 : sm_kc 3 = (1, 32) := by decide +kernel
theorem kc4 : sm_kc 4 = (5, 0) := by decide +kernel
theorem kc5 : sm_kc 5 = (5, 0) := by decide +kernel
theorem kc6 : sm_kc 6 = (5, 0) := by decide +kernel
theorem kc7 : sm_kc 7 = (5, 0) := by decide +kernel
theorem kc8 : sm_kc 8 = (5, 0) := by decide +kernel
theorem kc9 : sm_kc 9 = (5, 0) := by decide +kernel
theorem kc10 : sm_kc 10 = (5, 0) := by decide +kernel
theorem kc11 : sm_kc 11 = (5, 0) := by decide +kernel
theorem kc12 : sm_kc 12 = (5, 0) := by decide +kernel
theorem kc13 : sm_kc 13 = (5, 0) := by decide +kernel
theorem kc14 : sm_kc 14 = (5, 0) := by decide +kernel
theorem kc15 : sm_kc 15 = (4, 1) := by decide +kernel
theorem kc16 : sm_kc 16 = (4, 1) := by decide +kernel
theorem kc17 : sm_kc 17 = (4, 1) := by decide +kernel
theorem kc18 : sm_kc 18 = (4, 1) := by decide +kernel
theorem kc19 : sm_kc 19 = (4, 3) := by decide +kernel
theorem kc20 : sm_kc 20 = (4, 2) := by decide +kernel
theorem kc21 : sm_kc 21 = (4, 3) := by decide +kernel
theorem kc22 : sm_kc 22 = (4, 3) := by decide +kernel
theorem kc23 : sm_kc 23 = (4, 6) := by decide +kernel
theorem kc24 : sm_kc 24 = (4, 1) := by decide +kernel
theorem kc25 : sm_kc 25 = (4, 10) := by decide +kernel
theorem kc26 : sm_kc 26 = (0, 11) := by decide +kernel
theorem kc27 : sm_kc 27 = (0, 3) := by decide +kernel
theorem kc28 : sm_kc 28 = (1, 256) := by decide +kernel
theorem kc29 : sm_kc 29 = (1, 6) := by decide +kernel
theorem kc30 : sm_kc 30 = (1, 64) := by decide +kernel
theorem kc31 : sm_kc 31 = (0, 4) := by decide +kernel
theorem kc32 : sm_kc 32 = (1, 256) := by decide +kernel
theorem kc33 : sm_kc 33 = (1, 120) := by decide +kernel
theorem kc34 : sm_kc 34 = (0, 1) := by decide +kernel
theorem kc35 : sm_kc 35 = (1, 8) := by decide +kernel
theorem kc36 : sm_kc 36 = (1, 8) := by decide +kernel
theorem kc37 : sm_kc 37 = (1, 8) := by decide +kernel
theorem kc38 : sm_kc 38 = (1, 12) := by decide +kernel
theorem kc39 : sm_kc 39 = (1, 12) := by decide +kernel
theorem kc40 : sm_kc 40 = (0, 8) := by decide +kernel
theorem kc41 : sm_kc 41 = (1, 8) := by decide +kernel
theorem kc42 : sm_kc 42 = (1, 8) := by decide +kernel
theorem kc43 : sm_kc 43 = (1, 12) := by decide +kernel
theorem kc44 : sm_kc 44 = (0, 8) := by decide +kernel
theorem kc45 : sm_kc 45 = (1, 8) := by decide +kernel
theorem kc46 : sm_kc 46 = (1, 8) := by decide +kernel
theorem kc47 : sm_kc 47 = (1, 12) := by decide +kernel
theorem kc48 : sm_kc 48 = (0, 2) := by decide +kernel
theorem kc49 : sm_kc 49 = (0, 8) := by decide +kernel
theorem kc50 : sm_kc 50 = (1, 8) := by decide +kernel
theorem kc51 : sm_kc 51 = (1, 8) := by decide +kernel
theorem kc52 : sm_kc 52 = (1, 12) := by decide +kernel
theorem kc53 : sm_kc 53 = (1, 5) := by decide +kernel
theorem kc54 : sm_kc 54 = (0, 0) := by decide +kernel
theorem kc55 : sm_kc 55 = (1, 40) := by decide +kernel
theorem kc56 : sm_kc 56 = (1, 40) := by decide +kernel
theorem kc57 : sm_kc 57 = (1, 40) := by decide +kernel
theorem kc58 : sm_kc 58 = (1, 40) := by decide +kernel
theorem kc59 : sm_kc 59 = (1, 5) := by decide +kernel
theorem kc60 : sm_kc 60 = (0, 7) := by decide +kernel
theorem kc61 : sm_kc 61 = (1, 4) := by decide +kernel
theorem kc62 : sm_kc 62 = (3, 8) := by decide +kernel
theorem kc63 : sm_kc 63 = (1, 4) := by decide +kernel
theorem kc64 : sm_kc 64 = (0, 8) := by decide +kernel
theorem kc65 : sm_kc 65 = (1, 8) := by decide +kernel
theorem kc66 : sm_kc 66 = (1, 8) := by decide +kernel
theorem kc67 : sm_kc 67 = (1, 12) := by decide +kernel
theorem kc68 : sm_kc 68 = (0, 8) := by decide +kernel
theorem kc69 : sm_kc 69 = (1, 8) := by decide +kernel
theorem kc70 : sm_kc 70 = (1, 8) := by decide +kernel
theorem kc71 : sm_kc 71 = (1, 12) := by decide +kernel
theorem kc72 : sm_kc 72 = (0, 8) := by decide +kernel
theorem kc73 : sm_kc 73 = (1, 8) := by decide +kernel
theorem kc74 : sm_kc 74 = (1, 8) := by decide +kernel
theorem kc75 : sm_kc 75 = (1, 12) := by decide +kernel
theorem kc76 : sm_kc 76 = (0, 8) := by decide +kernel
theorem kc77 : sm_kc 77 = (1, 8) := by decide +kernel
theorem kc78 : sm_kc 78 = (1, 8) := by decide +kernel
theorem kc79 : sm_kc 79 = (1, 12) := by decide +kernel
theorem kc80 : sm_kc 80 = (0, 10) := by decide +kernel
theorem kc81 : sm_kc 81 = (1, 12) := by decide +kernel
theorem kc82 : sm_kc 82 = (1, 12) := by decide +kernel
theorem kc83 : sm_kc 83 = (1, 12) := by decide +kernel
theorem kc84 : sm_kc 84 = (0, 5) := by decide +kernel
theorem kc85 : sm_kc 85 = (1, 256) := by decide +kernel
theorem kc86 : sm_kc 86 = (1, 256) := by decide +kernel
theorem kc87 : sm_kc 87 = (0, 9) := by decide +kernel
theorem kc88 : sm_kc 88 = (1, 24) := by decide +kernel
theorem kc89 : sm_kc 89 = (1, 50) := by decide +kernel
theorem kc90 : sm_kc 90 = (3, 6) := by decide +kernel
theorem kc91 : sm_kc 91 = (0, 6) := by decide +kernel
theorem kc92 : sm_kc 92 = (2, 60) := by decide +kernel
theorem kc93 : sm_kc 93 = (0, 6) := by decide +kernel
theorem kc94 : sm_kc 94 = (2, 60) := by decide +kernel
theorem kc95 : sm_kc 95 = (0, 6) := by decide +kernel
theorem kc96 : sm_kc 96 = (2, 60) := by decide +kernel
theorem kc97 : sm_kc 97 = (0, 6) := by decide +kernel
theorem kc98 : sm_kc 98 = (2, 60) := by decide +kernel
theorem kc99 : sm_kc 99 = (0, 6) := by decide +kernel
theorem kc100 : sm_kc 100 = (2, 60) := by decide +kernel
theorem kc101 : sm_kc 101 = (0, 6) := by decide +kernel
theorem kc102 : sm_kc 102 = (2, 60) := by decide +kernel
theorem kc103 : sm_kc 103 = (0, 12) := by decide +kernel
theorem kc104 : sm_kc 104 = (1, 54) := by decide +kernel
theorem kc105 : sm_kc 105 = (1, 40) := by decide +kernel
theorem kc106 : sm_kc 106 = (1, 40) := by decide +kernel
theorem kc107 : sm_kc 107 = (1, 40) := by decide +kernel
theorem kc108 : sm_kc 108 = (1, 12) := by decide +kernel
theorem kc109 : sm_kc 109 = (1, 12) := by decide +kernel
theorem kc110 : sm_kc 110 = (1, 120) := by decide +kernel
theorem kc111 : sm_kc 111 = (1, 120) := by decide +kernel
theorem kc112 : sm_kc 112 = (1, 6) := by decide +kernel
theorem kc113 : sm_kc 113 = (1, 8) := by decide +kernel
theorem kc114 : sm_kc 114 = (1, 8) := by decide +kernel
theorem kc115 : sm_kc 115 = (1, 12) := by decide +kernel
theorem kc116 : sm_kc 116 = (1, 40) := by decide +kernel
theorem kc117 : sm_kc 117 = (1, 256) := by decide +kernel
theorem kc118 : sm_kc 118 = (1, 4) := by decide +kernel
theorem kc119 : sm_kc 119 = (1, 4) := by decide +kernel
theorem kc120 : sm_kc 120 = (1, 12) := by decide +kernel
theorem kc121 : sm_kc 121 = (1, 5) := by decide +kernel
theorem kc122 : sm_kc 122 = (1, 54) := by decide +kernel
theorem kc123 : sm_kc 123 = (1, 5) := by decide +kernel
theorem kc124 : sm_kc 124 = (1, 50) := by decide +kernel
theorem kc125 : sm_kc 125 = (1, 24) := by decide +kernel
theorem kc126 : sm_kc 126 = (1, 6) := by decide +kernel
theorem kc127 : sm_kc 127 = (1, 6) := by decide +kernel
theorem kc128 : sm_kc 128 = (2, 360) := by decide +kernel
theorem kc129 : sm_kc 129 = (2, 60) := by decide +kernel
theorem rf26_0 : sm_rf 26 0 = 27 := by decide +kernel
theorem rf26_1 : sm_rf 26 1 = 31 := by decide +kernel
theorem rf26_2 : sm_rf 26 2 = 34 := by decide +kernel
theorem rf26_3 : sm_rf 26 3 = 40 := by decide +kernel
theorem rf26_4 : sm_rf 26 4 = 44 := by decide +kernel
theorem rf26_5 : sm_rf 26 5 = 48 := by decide +kernel
theorem rf26_6 : sm_rf 26 6 = 54 := by decide +kernel
theorem rf26_7 : sm_rf 26 7 = 59 := by decide +kernel
theorem rf26_8 : sm_rf 26 8 = 60 := by decide +kernel
theorem rf26_9 : sm_rf 26 9 = 80 := by decide +kernel
theorem rf26_10 : sm_rf 26 10 = 84 := by decide +kernel
theorem rf26_11 : sm_rf 26 11 = 87 := by decide +kernel
theorem rf26_12 : sm_rf 26 12 = 90 := by decide +kernel
theorem rf27_0 : sm_rf 27 0 = 28 := by decide +kernel
theorem rf27_1 : sm_rf 27 1 = 29 := by decide +kernel
theorem rf27_2 : sm_rf 27 2 = 30 := by decide +kernel
theorem rf31_0 : sm_rf 31 0 = 32 := by decide +kernel
theorem rf31_3 : sm_rf 31 3 = 33 := by decide +kernel
theorem rf34_0 : sm_rf 34 0 = 35 := by decide +kernel
theorem rf34_1 : sm_rf 34 1 = 36 := by decide +kernel
theorem rf34_2 : sm_rf 34 2 = 37 := by decide +kernel
theorem rf34_3 : sm_rf 34 3 = 38 := by decide +kernel
theorem rf34_4 : sm_rf 34 4 = 39 := by decide +kernel
theorem rf34_5 : sm_rf 34 5 = 27 := by decide +kernel
theorem rf40_0 : sm_rf 40 0 = 41 := by decide +kernel
theorem rf40_1 : sm_rf 40 1 = 42 := by decide +kernel
theorem rf40_2 : sm_rf 40 2 = 43 := by decide +kernel
theorem rf44_0 : sm_rf 44 0 = 45 := by decide +kernel
theorem rf44_1 : sm_rf 44 1 = 46 := by decide +kernel
theorem rf44_2 : sm_rf 44 2 = 47 := by decide +kernel
theorem rf48_0 : sm_rf 48 0 = 49 := by decide +kernel
theorem rf48_1 : sm_rf 48 1 = 53 := by decide +kernel
theorem rf49_0 : sm_rf 49 0 = 50 := by decide +kernel
theorem rf49_1 : sm_rf 49 1 = 51 := by decide +kernel
theorem rf49_2 : sm_rf 49 2 = 52 := by decide +kernel
theorem rf54_0 : sm_rf 54 0 = 55 := by decide +kernel
theorem rf54_1 : sm_rf 54 1 = 56 := by decide +kernel
theorem rf54_2 : sm_rf 54 2 = 57 := by decide +kernel
theorem rf54_3 : sm_rf 54 3 = 58 := by decide +kernel
theorem rf60_0 : sm_rf 60 0 = 61 := by decide +kernel
theorem rf60_2 : sm_rf 60 2 = 34 := by decide +kernel
theorem rf60_3 : sm_rf 60 3 = 62 := by decide +kernel
theorem rf60_4 : sm_rf 60 4 = 63 := by decide +kernel
theorem rf64_0 : sm_rf 64 0 = 65 := by decide +kernel
theorem rf64_1 : sm_rf 64 1 = 66 := by decide +kernel
theorem rf64_2 : sm_rf 64 2 = 67 := by decide +kernel
theorem rf68_0 : sm_rf 68 0 = 69 := by decide +kernel
theorem rf68_1 : sm_rf 68 1 = 70 := by decide +kernel
theorem rf68_2 : sm_rf 68 2 = 71 := by decide +kernel
theorem rf72_0 : sm_rf 72 0 = 73 := by decide +kernel
theorem rf72_1 : sm_rf 72 1 = 74 := by decide +kernel
theorem rf72_2 : sm_rf 72 2 = 75 := by decide +kernel
theorem rf76_0 : sm_rf 76 0 = 77 := by decide +kernel
theorem rf76_1 : sm_rf 76 1 = 78 := by decide +kernel
theorem rf76_2 : sm_rf 76 2 = 79 := by decide +kernel
theorem rf80_0 : sm_rf 80 0 = 81 := by decide +kernel
theorem rf80_1 : sm_rf 80 1 = 34 := by decide +kernel
theorem rf80_2 : sm_rf 80 2 = 82 := by decide +kernel
theorem rf80_3 : sm_rf 80 3 = 83 := by decide +kernel
theorem rf84_0 : sm_rf 84 0 = 34 := by decide +kernel
theorem rf84_1 : sm_rf 84 1 = 85 := by decide +kernel
theorem rf84_2 : sm_rf 84 2 = 86 := by decide +kernel
theorem rf87_0 : sm_rf 87 0 = 88 := by decide +kernel
theorem rf87_3 : sm_rf 87 3 = 89 := by decide +kernel
theorem rf91_0 : sm_rf 91 0 = 92 := by decide +kernel
theorem rf93_0 : sm_rf 93 0 = 94 := by decide +kernel
theorem rf95_0 : sm_rf 95 0 = 96 := by decide +kernel
theorem rf97_0 : sm_rf 97 0 = 98 := by decide +kernel
theorem rf99_0 : sm_rf 99 0 = 100 := by decide +kernel
theorem rf101_0 : sm_rf 101 0 = 102 := by decide +kernel
theorem rf103_0 : sm_rf 103 0 = 104 := by decide +kernel
theorem rf103_1 : sm_rf 103 1 = 105 := by decide +kernel
theorem rf103_2 : sm_rf 103 2 = 106 := by decide +kernel
theorem rf103_3 : sm_rf 103 3 = 107 := by decide +kernel
theorem rf103_8 : sm_rf 103 8 = 108 := by decide +kernel
theorem rf103_9 : sm_rf 103 9 = 109 := by decide +kernel
theorem rf103_10 : sm_rf 103 10 = 110 := by decide +kernel
theorem rf103_12 : sm_rf 103 12 = 111 := by decide +kernel
theorem rf103_19 : sm_rf 103 19 = 112 := by decide +kernel
theorem rf103_20 : sm_rf 103 20 = 113 := by decide +kernel
theorem rf103_21 : sm_rf 103 21 = 114 := by decide +kernel
theorem rf103_22 : sm_rf 103 22 = 115 := by decide +kernel
theorem rf103_25 : sm_rf 103 25 = 116 := by decide +kernel
theorem rf103_27 : sm_rf 103 27 = 117 := by decide +kernel
theorem rf103_28 : sm_rf 103 28 = 118 := by decide +kernel
theorem rf103_29 : sm_rf 103 29 = 119 := by decide +kernel
theorem rf103_31 : sm_rf 103 31 = 120 := by decide +kernel
theorem rf103_32 : sm_rf 103 32 = 121 := by decide +kernel
theorem rf103_36 : sm_rf 103 36 = 122 := by decide +kernel
theorem rf103_37 : sm_rf 103 37 = 123 := by decide +kernel
theorem rf103_39 : sm_rf 103 39 = 124 := by decide +kernel
theorem rf103_40 : sm_rf 103 40 = 125 := by decide +kernel
theorem rf103_44 : sm_rf 103 44 = 126 := by decide +kernel
theorem rf103_45 : sm_rf 103 45 = 127 := by decide +kernel
theorem rf103_46 : sm_rf 103 46 = 128 := by decide +kernel
theorem rf103_47 : sm_rf 103 47 = 129 := by decide +kernel
theorem rc26 (n : Nat) (I : sm_I) (J : sm_J) : sm_rc (sm_SH n, I, J) 26 = 11 := sm_rc_of kc26
theorem rc27 (n : Nat) (I : sm_I) (J : sm_J) : sm_rc (sm_SH n, I, J) 27 = 3 := sm_rc_of kc27
theorem rc31 (n : Nat) (I : sm_I) (J : sm_J) : sm_rc (sm_SH n, I, J) 31 = 4 := sm_rc_of kc31
theorem rc34 (n : Nat) (I : sm_I) (J : sm_J) : sm_rc (sm_SH n, I, J) 34 = 1 := sm_rc_of kc34
theorem rc40 (n : Nat) (I : sm_I) (J : sm_J) : sm_rc (sm_SH n, I, J) 40 = 8 := sm_rc_of kc40
theorem rc44 (n : Nat) (I : sm_I) (J : sm_J) : sm_rc (sm_SH n, I, J) 44 = 8 := sm_rc_of kc44
theorem rc48 (n : Nat) (I : sm_I) (J : sm_J) : sm_rc (sm_SH n, I, J) 48 = 2 := sm_rc_of kc48
theorem rc49 (n : Nat) (I : sm_I) (J : sm_J) : sm_rc (sm_SH n, I, J) 49 = 8 := sm_rc_of kc49
theorem rc54 (n : Nat) (I : sm_I) (J : sm_J) : sm_rc (sm_SH n, I, J) 54 = 0 := sm_rc_of kc54
theorem rc60 (n : Nat) (I : sm_I) (J : sm_J) : sm_rc (sm_SH n, I, J) 60 = 7 := sm_rc_of kc60
theorem rc64 (n : Nat) (I : sm_I) (J : sm_J) : sm_rc (sm_SH n, I, J) 64 = 8 := sm_rc_of kc64
theorem rc68 (n : Nat) (I : sm_I) (J : sm_J) : sm_rc (sm_SH n, I, J) 68 = 8 := sm_rc_of kc68
theorem rc72 (n : Nat) (I : sm_I) (J : sm_J) : sm_rc (sm_SH n, I, J) 72 = 8 := sm_rc_of kc72
theorem rc76 (n : Nat) (I : sm_I) (J : sm_J) : sm_rc (sm_SH n, I, J) 76 = 8 := sm_rc_of kc76
theorem rc80 (n : Nat) (I : sm_I) (J : sm_J) : sm_rc (sm_SH n, I, J) 80 = 10 := sm_rc_of kc80
theorem rc84 (n : Nat) (I : sm_I) (J : sm_J) : sm_rc (sm_SH n, I, J) 84 = 5 := sm_rc_of kc84
theorem rc87 (n : Nat) (I : sm_I) (J : sm_J) : sm_rc (sm_SH n, I, J) 87 = 9 := sm_rc_of kc87
theorem rc91 (n : Nat) (I : sm_I) (J : sm_J) : sm_rc (sm_SH n, I, J) 91 = 6 := sm_rc_of kc91
theorem rc93 (n : Nat) (I : sm_I) (J : sm_J) : sm_rc (sm_SH n, I, J) 93 = 6 := sm_rc_of kc93
theorem rc95 (n : Nat) (I : sm_I) (J : sm_J) : sm_rc (sm_SH n, I, J) 95 = 6 := sm_rc_of kc95
theorem rc97 (n : Nat) (I : sm_I) (J : sm_J) : sm_rc (sm_SH n, I, J) 97 = 6 := sm_rc_of kc97
theorem rc99 (n : Nat) (I : sm_I) (J : sm_J) : sm_rc (sm_SH n, I, J) 99 = 6 := sm_rc_of kc99
theorem rc101 (n : Nat) (I : sm_I) (J : sm_J) : sm_rc (sm_SH n, I, J) 101 = 6 := sm_rc_of kc101
theorem rc103 (n : Nat) (I : sm_I) (J : sm_J) : sm_rc (sm_SH n, I, J) 103 = 12 := sm_rc_of kc103
