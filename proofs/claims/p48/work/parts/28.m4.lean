def fin1 (N : Int → Int) : Int → Int := upN N 2 (N 2 + 1)
def fin2 (N : Int → Int) : Int → Int := fin1 (lnNL N 0 (N 9).toNat)
