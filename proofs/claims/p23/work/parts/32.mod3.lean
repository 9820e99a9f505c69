/-! the reference, third part -/
def plM (i t : Int) : Int := (i / 405 + mvM (i % 405 / 5 - 40) (i % 5 - 2) t) % 3600
