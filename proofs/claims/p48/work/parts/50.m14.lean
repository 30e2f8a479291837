def atN4 (N : Int → Int) (a b c : Int) : Int → Int := upN (upN (upN (upN N (206 + 4 * N 7) a) (206 + 4 * N 7 + 1) b) (206 + 4 * N 7 + 2) c) (206 + 4 * N 7 + 3) 0
def atN (N : Int → Int) (a b c : Int) : Int → Int := upN (atN4 N a b c) 7 (atN4 N a b c 7 + 1)
