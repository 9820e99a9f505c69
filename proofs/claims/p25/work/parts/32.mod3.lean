/-! the reference, third part -/
def cnF (G : ZS) (k : Int) (q : Int × Int × Int) : Int × Int × Int := (if nM G (G 20 k) < q.1 then nM G (G 20 k) else q.1, if q.2.1 < nM G (G 20 k) then nM G (G 20 k) else q.2.1, q.2.2)
def seenM (G : ZS) (k : Int) : Prop := anyI (fun j => nM G (G 20 j) = nM G (G 20 k)) k.toNat 0
noncomputable def cnG (G : ZS) (k : Int) (q : Int × Int × Int) : Int × Int × Int := ((cnF G k q).1, (cnF G k q).2.1, q.2.2 + (1 - b2 (seenM G k)))
noncomputable def cnA (G : ZS) : Int × Int × Int := itr (cnG G) (G 19 0).toNat 0 (1000, 0, 0)
noncomputable def cnP (S : ZS) (b : Int) : Prop := S 12 b = -1 ∧ ¬ 0 < S 14 b ∧ 2 < (cnA (laysM b S)).2.2 ∧ 29 < (cnA (laysM b S)).2.1 - (cnA (laysM b S)).1 ∧ 0 < findM (laysM b S) 21 0 ∧ findM (laysM b S) 21 0 = 1
/-- how many of the keys are not above a number -/
def cle (S : ZS) (x : Int) : Int := itr (fun k acc => if S 22 k ≤ x then acc + 1 else acc) (S 21 0).toNat 0 0
def kaR (S : ZS) (r : Int) : Nat → Int → Int → Int
  | 0, low, _ => low
  | n + 1, low, high => if low < high then (if r < cle S ((low + high) / 2) then kaR S r n low ((low + high) / 2) else kaR S r n ((low + high) / 2 + 1) high) else low
def plM (i t : Int) : Int := (i / 405 + mvM (i % 405 / 5 - 40) (i % 5 - 2) t) % 3600
def zrF (k : Int) (T : ZS) : ZS := su T 23 (up (T 23) k 0)
def spF (t k : Int) (T : ZS) : ZS := su T 23 (up (T 23) (plM (T 22 k) t) (T 23 (plM (T 22 k) t) + 1))
noncomputable def spB (b : Int) (S : ZS) : ZS := findM (laysM b (itr zrF 3600 0 S))
noncomputable def spM (b t : Int) (S : ZS) : ZS := itr (spF t) (spB b S 21 0).toNat 0 (spB b S)
def sprM (S : ZS) : Int := itr (fun p acc => if 0 < S 23 p then acc + 1 else acc) 3600 0 0
def plcM (S : ZS) (r : Int) : Int := nthC (fun p => 0 < S 23 p) (-1) 3600 0 r
def isNP (its f n : Int) : Prop := anyI (fun t => apM (plM its t) (10 * t % 3600) ≤ 2) n.toNat f
def akM (S : ZS) (o t m : Int) : Prop := 0 < S 14 o ∧ 0 < S 14 t ∧ max (S 15 o - S 15 t) (-(S 15 o - S 15 t)) + 5 * max (S 16 o - S 16 t) (-(S 16 o - S 16 t)) ≤ m
