/-! the law's text, purely: bytes t, n of them; a reading gives (place, went wrong, steps, value) -/
abbrev pG : Type := Nat → Int32
abbrev pR : Type := Nat × Bool × List Int32 × (pG → Int32)
/-- what a sign makes of two values -/
def jn (s : Nat) (l r : Int32) : Int32 :=
  if s = 124 then (if l = 0 ∧ r = 0 then 0 else 1) else if s = 38 then (if l = 0 ∨ r = 0 then 0 else 1)
  else if s = 60 then (if l < r then 1 else 0) else if s = 61 then (if l = r then 1 else 0) else if s = 62 then (if r < l then 1 else 0)
  else if s = 43 then l + r else if s = 45 then l - r else if s = 42 then l * r
  else if s = 47 then (if r = 0 then 0 else l / r) else if s = 37 then (if r = 0 then 0 else l - l / r * r) else 0
/-- what ! or - makes of a value -/
def ch (s : Nat) (v : Int32) : Int32 := if s = 33 then (if v = 0 then 1 else 0) else -v
section
variable (t : Nat → Nat) (n : Nat)
/-- the loop of a level: k times at most -/
def pl (sg : Nat → Bool) (sub : Nat → pR) : Nat → pR → pR
  | 0, r => r
  | k + 1, r => if r.2.1 = false ∧ r.1 < n ∧ sg (t r.1) = true then
      pl sg sub k ((sub (r.1 + 1)).1, (sub (r.1 + 1)).2.1, r.2.2.1 ++ (sub (r.1 + 1)).2.2.1 ++ [nI (t r.1)], fun g => jn (t r.1) (r.2.2.2 g) ((sub (r.1 + 1)).2.2.2 g))
    else r
def sgs (l : Nat) (c : Nat) : Bool := match l with
  | 0 => c == 124
  | 1 => c == 38
  | 2 => c == 60 || c == 61 || c == 62
  | 3 => c == 43 || c == 45
  | _ => c == 42 || c == 47 || c == 37
def mst (l : Nat) : Nat := if l = 2 then 1 else 120
/-- a level: 5 - l levels above the operand -/
def pv (op : Nat → pR) : Nat → Nat → pR
  | 0 => op
  | j + 1 => fun k => pl t n (sgs (4 - j)) (pv op j) (mst (4 - j)) (pv op j k)
/-- digits -/
def pn : Nat → Nat → Nat → Nat × Nat
  | 0, a, v => (a, v)
  | k + 1, a, v => if a < n ∧ 48 ≤ t a ∧ t a ≤ 57 then pn k (a + 1) (10 * v + (t a - 48)) else (a, v)
def nmi (c : Nat) : Nat := if c = 118 then 0 else if c = 104 then 1 else if c = 109 then 2 else if c = 115 then 3 else if c = 110 then 4 else if c = 101 then 5 else 6
/-- a name or a number -/
def pd (a : Nat) : pR := if a < n ∧ nmi (t a) < 6 then (a + 1, false, [nI (256 + nmi (t a))], fun g => g (nmi (t a)))
  else if (pn t n 4 a 0).1 = a then (a, true, [], fun _ => 0) else ((pn t n 4 a 0).1, false, [nI (512 + (pn t n 4 a 0).2)], fun _ => nI (pn t n 4 a 0).2)
def isO (c : Nat) : Bool := c == 33 || c == 45 || c == 40
/-- an operand, with so many that may be opened still -/
def po : Nat → Nat → pR
  | 0 => fun a => if a < n ∧ isO (t a) = true then (a, true, [], fun _ => 0) else pd t n a
  | o + 1 => fun a => if a < n ∧ isO (t a) = true then
      (if t a = 40 then
        (if (pv t n (po o) 5 (a + 1)).2.1 = false ∧ (pv t n (po o) 5 (a + 1)).1 < n ∧ t (pv t n (po o) 5 (a + 1)).1 = 41 then ((pv t n (po o) 5 (a + 1)).1 + 1, false, (pv t n (po o) 5 (a + 1)).2.2.1, (pv t n (po o) 5 (a + 1)).2.2.2)
         else ((pv t n (po o) 5 (a + 1)).1, true, [], fun _ => 0))
       else ((po o (a + 1)).1, (po o (a + 1)).2.1, (po o (a + 1)).2.2.1 ++ [if t a = 33 then 33 else 126], fun g => ch (t a) ((po o (a + 1)).2.2.2 g)))
    else pd t n a
/-- an expression -/
def pe (a : Nat) : pR := pv t n (po t n 6) 5 a
abbrev pL : Type := Nat × Bool × List Int32 × (pG → Option Int32)
/-- a line, from a place on, its first step being the w-th -/
def pi' (a w : Nat) : pL :=
  if (pe t n a).2.1 = false ∧ (pe t n a).1 < n ∧ t (pe t n a).1 = 63 then
    ((pe t n ((pe t n a).1 + 1)).1, (pe t n ((pe t n a).1 + 1)).2.1,
      (pe t n a).2.2.1 ++ 63 :: nI (w + (pe t n a).2.2.1.length + 2 + (pe t n ((pe t n a).1 + 1)).2.2.1.length + 1) :: ((pe t n ((pe t n a).1 + 1)).2.2.1 ++ [59]),
      fun g => if (pe t n a).2.2.2 g = 0 then none else some ((pe t n ((pe t n a).1 + 1)).2.2.2 g))
  else ((pe t n a).1, (pe t n a).2.1, (pe t n a).2.2.1 ++ [59], fun g => some ((pe t n a).2.2.2 g))
def px : Nat → pL → pL
  | 0, r => r
  | k + 1, r => if r.2.1 = false ∧ r.1 < n ∧ t r.1 = 59 then
      px k ((pi' t n (r.1 + 1) r.2.2.1.length).1, (pi' t n (r.1 + 1) r.2.2.1.length).2.1, r.2.2.1 ++ (pi' t n (r.1 + 1) r.2.2.1.length).2.2.1, fun g => (r.2.2.2 g).or ((pi' t n (r.1 + 1) r.2.2.1.length).2.2.2 g))
    else r
def pt : pL := px t n 120 (pi' t n 0 0)
end
