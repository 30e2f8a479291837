def dpL (N : Int → Int) (j : Int) : Nat → Int → Int
  | 0 => N
  | n + 1 => dpL (upN N (206 + j) (N (206 + j + 4))) (j + 1) n
def dpN (N : Int → Int) (t : Int) : Int → Int := dpL (upN N 7 (N 7 - 1)) (4 * t) (4 * (N 7 - 1) - 4 * t).toNat
