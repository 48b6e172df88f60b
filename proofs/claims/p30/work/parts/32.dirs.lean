/-! the four ways -/
def dk_dC (w : Int) : Int := if w = 1 then 1 else if w = 3 then -1 else 0
def dk_dR (w : Int) : Int := if w = 2 then 1 else if w = 0 then -1 else 0
