/-! what is found: the same keys -/
/-- how many of the keys are at a place -/
def often (l : List Int) (n p : Int) : Int := l.countP (fun x => decide (plM x n = p))
