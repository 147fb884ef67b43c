/-! every instruction is what the method's bytes say, and what it refers to stands in the tables -/
def sm_chk (o : Nat) (e : sm_E) : Bool := match e with
  | (.getfield ix, _, a, b, _) => if a = 13 then sm_FS.contains (o, ix, a, b) else sm_FT.contains (o, ix, a, b)
  | (.putfield ix, _, a, b, _) => sm_FT.contains (o, ix, a, b)
  | (.getstatic ix, _, a, _, _) => sm_GS.contains (o, ix, a)
  | (.ldc ix, _, a, b, z) => if a = 0 then sm_LC.contains (o, ix, z) else sm_LS.contains (o, ix, b)
  | (.ldc_w ix, _, _, _, z) => sm_LC.contains (o, ix, z)
  | (.ldc2_w ix, _, _, _, z) => sm_LL.contains (o, ix, z)
  | (.invokevirtual ix, _, a, b, _) => if 9000 ≤ a then true else sm_MV.contains (o, ix, a, b)
  | (.invokespecial ix, _, a, b, _) => if a = 9999 then sm_OI.contains (o, ix) else sm_MI.contains (o, ix, a, b) || sm_MIN.contains (o, ix, a, b)
  | (.invokestatic ix, _, a, b, _) => if a = 9998 then sm_AC.contains (o, ix) else if a = 9996 then sm_MX.contains (o, ix) else if a = 9995 then sm_MN.contains (o, ix) else if 9000 ≤ a then true else sm_MS.contains (o, ix, a, b) || sm_MSN.contains (o, ix, a, b)
  | (.new ix, _, a, _, _) => sm_CT.contains (o, ix, a)
  | (.newarray t, _, a, _, _) => (a == 1 && t == .int) || (a == 2 && t == .long)
  | (.anewarray ix, _, a, _, _) => sm_AN.contains (o, ix, a)
  | _ => true
def sm_okt (bs : ByteArray) (o : Nat) (t : List (Nat × sm_E)) : Bool := t.all fun e => decide (decode bs e.1 = .ok (e.2.1, e.2.2.1)) && sm_chk o e.2
def sm_okm (q : sm_Me) : Bool := sm_okt q.2.1 q.2.2.2.2.1 q.2.2.2.2.2
theorem sm_oka {bs : ByteArray} {o : Nat} {s t : List (Nat × sm_E)} (h : sm_okt bs o s = true) (k : sm_okt bs o t = true) : sm_okt bs o (s ++ t) = true := by
  unfold sm_okt at *
  rw [List.all_append, h, k]; rfl
