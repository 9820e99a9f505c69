/-! the orbit at a rank: by halves, or by the tallies -/
def below (l : List Int) (y : Int) : Int := l.countP (fun x => decide (x < y))
/-! how often a key stands in the list: once, or not -/
